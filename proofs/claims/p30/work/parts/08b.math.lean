/-! THE LAW's formulas: a table F of naturals, four to a formula; ghosts: rows of tokens T, levels lv -/
theorem gd_l {a b : List Nat} {p : Nat} (h : p < a.length) : (a ++ b).getD p 0 = a.getD p 0 := by
  rw [List.getD_eq_getElem?_getD, List.getD_eq_getElem?_getD, List.getElem?_append_left h]
theorem gd_r {a b : List Nat} {p : Nat} (h : a.length ≤ p) : (a ++ b).getD p 0 = b.getD (p - a.length) 0 := by
  rw [List.getD_eq_getElem?_getD, List.getD_eq_getElem?_getD, List.getElem?_append_right h]
theorem dgl_1 {t : Nat} (h : t < 10) : dgl t = [48 + t] := by
  have k : ∀ t, t < 10 → dgl t = [48 + t] := by decide +kernel
  exact k t h
/-- what stands ahead of the first part of a join -/
def fjn (k : Nat) : List Nat := (if k = 2 then [109, 105, 110] else if k = 3 then [109, 97, 120] else []) ++ [40]
/-- what stands between its parts -/
def mjn (k : Nat) : List Nat := if k = 0 then [32, 43, 32] else if k = 1 then [32, 45, 32] else [44, 32]
theorem fjn_len {k : Nat} (h : k < 4) : (fjn k).length = if k < 2 then 1 else 4 := by
  have z : ∀ k, k < 4 → (fjn k).length = if k < 2 then 1 else 4 := by decide
  exact z k h
theorem mjn_len {k : Nat} (h : k < 4) : (mjn k).length = if k < 2 then 3 else 2 := by
  have z : ∀ k, k < 4 → (mjn k).length = if k < 2 then 3 else 2 := by decide
  exact z k h
theorem sjt_app (k : Nat) (a b : List Nat) : sjt k a b = fjn k ++ (a ++ (mjn k ++ (b ++ [41]))) := by
  unfold sjt fjn mjn
  simp only [List.append_assoc]
theorem sjt_ln {k : Nat} (hk : k < 4) (a b : List Nat) : (sjt k a b).length = a.length + b.length + (if k < 2 then 5 else 7) := by
  rw [sjt_app]
  simp only [List.length_append, fjn_len hk, mjn_len hk, List.length_cons, List.length_nil]
  split <;> omega
section
variable {k p : Nat} {a b : List Nat}
theorem sjt_1 (h : p < (fjn k).length) : (sjt k a b).getD p 0 = (fjn k).getD p 0 := by rw [sjt_app, gd_l h]
theorem sjt_2 (h1 : (fjn k).length ≤ p) (h : p < (fjn k).length + a.length) : (sjt k a b).getD p 0 = a.getD (p - (fjn k).length) 0 := by rw [sjt_app, gd_r h1, gd_l (by omega)]
theorem sjt_3 (h1 : (fjn k).length + a.length ≤ p) (h : p < (fjn k).length + a.length + (mjn k).length) : (sjt k a b).getD p 0 = (mjn k).getD (p - (fjn k).length - a.length) 0 := by rw [sjt_app, gd_r (by omega), gd_r (by omega), gd_l (by omega)]
theorem sjt_4 (h1 : (fjn k).length + a.length + (mjn k).length ≤ p) (h : p < (fjn k).length + a.length + (mjn k).length + b.length) : (sjt k a b).getD p 0 = b.getD (p - (fjn k).length - a.length - (mjn k).length) 0 := by rw [sjt_app, gd_r (by omega), gd_r (by omega), gd_r (by omega), gd_l (by omega)]
theorem sjt_5 (h1 : (fjn k).length + a.length + (mjn k).length + b.length = p) : (sjt k a b).getD p 0 = 41 := by
  rw [sjt_app, gd_r (by omega), gd_r (by omega), gd_r (by omega), gd_r (by omega), show p - (fjn k).length - a.length - (mjn k).length - b.length = 0 by omega]; rfl
end
def fN (F : Nat → Nat) : Nat → Int32 := fun j => nI (F j)
abbrev iC (G : zG) (h : zH) (a n : Nat) (f : Nat → Int32) : Prop := h a = some (.inl (gc G 0, n, .inl f))
/-- one formula of the table -/
def FE (F : Nat → Nat) (T : Nat → List Tok) (lv tl : Nat → Nat) (N k : Nat) : Prop := 1 ≤ lv k ∧ lv k ≤ 6 ∧ F (4 * k + 3) = lv k ∧
  ((F (4 * k) = 4 ∧ F (4 * k + 1) < 6 ∧ T k = [(4, F (4 * k + 1))] ∧ lv k = 1) ∨
   (F (4 * k) = 5 ∧ F (4 * k + 1) ≤ 1000000 ∧ T k = [(5, F (4 * k + 1))] ∧ lv k = 1) ∨
   (F (4 * k) = 6 ∧ F (4 * k + 1) < N ∧ T k = [(6, F (4 * k + 1))] ∧ lv k = tl (F (4 * k + 1)) + 1) ∨
   (F (4 * k) < 4 ∧ F (4 * k + 1) < k ∧ F (4 * k + 2) < k ∧ T k = T (F (4 * k + 1)) ++ T (F (4 * k + 2)) ++ [(F (4 * k), 0)] ∧ lv k = 1 + max (lv (F (4 * k + 1))) (lv (F (4 * k + 2)))) ∨
   (F (4 * k) = 7 ∧ F (4 * k + 1) < k ∧ F (4 * k + 2) ≤ 100 ∧ T k = T (F (4 * k + 1)) ++ [(7, F (4 * k + 2))] ∧ lv k = lv (F (4 * k + 1)) + 1) ∨
   (F (4 * k) = 8 ∧ F (4 * k + 1) < k ∧ T k = T (F (4 * k + 1)) ++ [(8, 0)] ∧ lv k = lv (F (4 * k + 1)) + 1))
/-- the table, the accounts, the definitions beside the state -/
def EV (s : ZS) (F : Nat → Nat) (A D : Nat → Int32) (T : Nat → List Tok) (lv : Nat → Nat) (M : Nat) : Prop := M ≤ 15 ∧ oN s ≤ 6 ∧ (∀ k, k < M → FE F T lv (oL s) (oN s) k) ∧ (∀ a q, a < 6 → q < 9 → A (10 * a + q) = oA s a q) ∧
  ∀ t, t < oN s → ∀ q, q < 10 → (D (10 * t + q) = -1 ∧ oD s t q = none) ∨ ∃ k, k < M ∧ D (10 * t + q) = nI k ∧ oD s t q = some (T k) ∧ lv k ≤ oL s t
/-- the formula that holds -/
def hqd (D : Nat → Int32) (t : Nat) : Nat → Int32
  | 0 => D (10 * t)
  | q + 1 => if D (10 * t + (q + 1)) < 0 then hqd D t q else D (10 * t + (q + 1))
theorem hqd_no {D : Nat → Int32} {t c : Nat} (hc : c ≠ 0) (h : D (10 * t + c) < 0) : hqd D t c = hqd D t (c - 1) := by
  obtain ⟨b, rfl⟩ : ∃ b, c = b + 1 := ⟨c - 1, by omega⟩
  exact if_pos h
theorem hqd_yes {D : Nat → Int32} {t c : Nat} (h : ¬ D (10 * t + c) < 0) : hqd D t c = D (10 * t + c) := by
  cases c with
  | zero => rfl
  | succ b => exact if_neg h
section
variable {s : ZS} {F : Nat → Nat} {A D : Nat → Int32} {T : Nat → List Tok} {lv : Nat → Nat} {M k t q : Nat}
theorem EV.tl (he : EV s F A D T lv M) (hw : WFs s) (ht : t < oN s) : 1 ≤ oL s t := (hw.2.2.1.2.1 t ht).1
theorem EV.wl (he : EV s F A D T lv M) (hw : WFs s) : ∀ n k, k < n → k < M → WL (oL s) (lv k) (T k) := by
  intro n
  induction n with
  | zero => intro k h; omega
  | succ n ih =>
    intro k hkn hk
    obtain ⟨l1, l2, -, h⟩ := he.2.2.1 k hk
    have hN := he.2.1
    obtain ⟨m, hm⟩ : ∃ m, lv k = m + 1 := ⟨lv k - 1, by omega⟩
    rw [hm]
    rcases h with ⟨-, h2, h3, -⟩ | ⟨-, h2, h3, -⟩ | ⟨-, h2, h3, h4⟩ | ⟨h1, h2, h3, h4, h5⟩ | ⟨-, h2, h3, h4, h5⟩ | ⟨-, h2, h3, h4⟩
    · exact Or.inl ⟨_, h2, h3⟩
    · exact Or.inr (Or.inl ⟨_, h2, h3⟩)
    · exact Or.inr (Or.inr (Or.inl ⟨_, by omega, by omega, EV.tl he hw h2, h3⟩))
    · exact Or.inr (Or.inr (Or.inr (Or.inl ⟨_, _, _, h1, (ih _ (by omega) (by omega)).up (by omega), (ih _ (by omega) (by omega)).up (by omega), h4⟩)))
    · exact Or.inr (Or.inr (Or.inr (Or.inr (Or.inl ⟨_, _, h3, (ih _ (by omega) (by omega)).up (by omega), h4⟩))))
    · exact Or.inr (Or.inr (Or.inr (Or.inr (Or.inr ⟨_, (ih _ (by omega) (by omega)).up (by omega), h3⟩))))
theorem EV.w (he : EV s F A D T lv M) (hw : WFs s) (hk : k < M) : WL (oL s) (lv k) (T k) := he.wl hw (k + 1) k (by omega) hk
theorem EV.w6 (he : EV s F A D T lv M) (hw : WFs s) (hk : k < M) : WL (oL s) 6 (T k) := (he.w hw hk).up (he.2.2.1 k hk).2.1
theorem EV.lv1 (he : EV s F A D T lv M) (hk : k < M) : 1 ≤ lv k := (he.2.2.1 k hk).1
theorem shd_hqd (he : EV s F A D T lv M) (hw : WFs s) (ht : t < oN s) (hq : q < 10) : ∃ k, k < M ∧ hqd D t q = nI k ∧ shd (oD s t) q = some (T k) ∧ lv k ≤ oL s t := by
  have hN := he.2.1
  induction q with
  | zero =>
    rcases he.2.2.2.2 t ht 0 (by decide) with ⟨-, h⟩ | h
    · exact absurd h (hw.2.2.1.2.1 t ht).2.2.1
    · exact h
  | succ q ih =>
    rcases he.2.2.2.2 t ht (q + 1) hq with ⟨h1, h2⟩ | ⟨k, h1, h2, h3, h4⟩
    · obtain ⟨k, a, b, c, d⟩ := ih (by omega)
      refine ⟨k, a, ?_, ?_, d⟩
      · show (if D (10 * t + (q + 1)) < 0 then _ else _) = _
        rw [if_pos (by rw [h1]; decide)]; exact b
      · show (match oD s t (q + 1) with | some f => some f | none => shd (oD s t) q) = _
        rw [h2]; exact c
    · have hM := he.1
      refine ⟨k, h1, ?_, ?_, h4⟩
      · show (if D (10 * t + (q + 1)) < 0 then _ else _) = _
        rw [if_neg (by rw [h2]; exact fun z => absurd ((nk_lt (a := k) 0 (by decide) (by omega) (by decide)).mp z) (by omega))]; exact h2
      · show (match oD s t (q + 1) with | some f => some f | none => shd (oD s t) q) = _
        rw [h3]
theorem EV.d0 (he : EV s F A D T lv M) (hw : WFs s) (ht : t < oN s) : ¬ D (10 * t) < 0 := by
  obtain ⟨k, h1, h2, -⟩ := shd_hqd he hw ht (q := 0) (by decide)
  have hM := he.1
  rw [show D (10 * t) = nI k from h2]
  exact fun z => absurd ((nk_lt (a := k) 0 (by decide) (by omega) (by decide)).mp z) (by omega)
/-- a term's value is that of the formula that holds -/
theorem oV_held {f : List Tok} {n : Nat} (hw : WFs s) (ht : t < oN s) (h : shd (oD s t) q = some f) (hf : WL (oL s) n f) (hg : gtk f ≤ t) : oV s t q = rowOf (oAL s) (oV s) f q := by
  unfold oV
  rw [sval_lt ht]
  show (if t = t then (fun q => rowOf (oAL s) (sval (oAL s) (oD s) t) ((shd (oD s t) q).getD []) q) else sval (oAL s) (oD s) t t) q = _
  rw [if_pos rfl]
  show rowOf (oAL s) (sval (oAL s) (oD s) t) ((shd (oD s t) q).getD []) q = _
  rw [h]
  show rowOf (oAL s) (sval (oAL s) (oD s) t) f q = _
  rw [hf.congr hg (W := sval (oAL s) (oD s) (oN s))]
  intro j hj
  rw [sval_lt (n := oN s) (by omega), sval_lt (n := t) hj]
theorem shd_def {d : Nat → Option (List Tok)} {f : List Tok} (h : shd d q = some f) : ∃ z, d z = some f := by
  induction q with
  | zero => exact ⟨0, h⟩
  | succ q ih =>
    have e : shd d (q + 1) = match d (q + 1) with | some f => some f | none => shd d q := rfl
    rw [e] at h
    cases hd : d (q + 1) with
    | none => rw [hd] at h; exact ih h
    | some g => rw [hd] at h; exact ⟨q + 1, by rw [hd]; exact h⟩
theorem EV.held (he : EV s F A D T lv M) (hw : WFs s) (ht : t < oN s) (hq : q < 10) : ∃ k, k < M ∧ hqd D t q = nI k ∧ lv k ≤ oL s t ∧ tHeld s t q = T k ∧ oV s t q = rowOf (oAL s) (oV s) (T k) q := by
  obtain ⟨k, h1, h2, h3, h4⟩ := shd_hqd he hw ht hq
  obtain ⟨z, hz⟩ := shd_def h3
  have hf := (hw.2.2.1.2.1 t ht).2.2.2 z _ hz
  exact ⟨k, h1, h2, h4, by unfold tHeld; rw [h3]; rfl, oV_held hw ht h3 hf.1 hf.2⟩
end
/-! small numbers -/
def lw (v : Int32) (d : Nat) : Nat := (v &&& 2147483647).toNatClampNeg % d
theorem lw_lt {v : Int32} {d : Nat} (h : 0 < d) : lw v d < d := Nat.mod_lt _ h
theorem and_nn (v : Int32) : 0 ≤ (v &&& 2147483647).toInt := by
  show 0 ≤ (v.toBitVec &&& (2147483647 : Int32).toBitVec).toInt
  have k : (v.toBitVec &&& (2147483647 : Int32).toBitVec).msb = false := by
    rw [BitVec.msb_and, show ((2147483647 : Int32).toBitVec).msb = false by decide]; simp
  rw [BitVec.toInt_eq_toNat_of_msb k]; omega
theorem and_nI (v : Int32) : v &&& 2147483647 = nI ((v &&& 2147483647).toNatClampNeg) ∧ (v &&& 2147483647).toNatClampNeg < 2 ^ 31 := by
  have h := and_nn v
  have l := (v &&& 2147483647).toInt_lt
  have e : (v &&& 2147483647).toNatClampNeg = (v &&& 2147483647).toInt.toNat := rfl
  have b : (v &&& 2147483647).toNatClampNeg < 2 ^ 31 := by rw [e]; omega
  refine ⟨Int32.toInt_inj.mp ?_, b⟩
  rw [nI_toInt b, e]; omega
theorem lw_eq (v : Int32) {d : Nat} (h0 : 0 < d) (hd : d < 2 ^ 31) : (v &&& 2147483647) - (v &&& 2147483647) / nI d * nI d = nI (lw v d) := by
  obtain ⟨e, b⟩ := and_nI v
  unfold lw
  generalize (v &&& 2147483647).toNatClampNeg = a at e b
  rw [e]; exact pk_rem b h0 hd
/-! texts of leaves, pieces of joins -/
theorem tx4 {a : Nat} (h : a < 6) : txtOf [(4, a)] = [65, 48 + a] := by
  show [65] ++ dgl a = _
  rw [dgl_1 (by omega)]; rfl
theorem tx6 {a : Nat} (h : a < 10) : txtOf [(6, a)] = [84, 48 + a] := by
  show [84] ++ dgl a = _
  rw [dgl_1 (by omega)]; rfl
theorem tx5 (v : Nat) : txtOf [(5, v)] = dgl v := rfl
theorem mj_2 {k : Nat} (h : 2 ≤ k) : mjn k = [44, 32] := by unfold mjn; rw [if_neg (by omega), if_neg (by omega)]
theorem mj_b {k r : Nat} (h : k < 2) (hr : r < 3) (hn : r ≠ 1) : (mjn k).getD r 0 = 32 := by
  have z : ∀ k, k < 2 → ∀ r, r < 3 → r ≠ 1 → (mjn k).getD r 0 = 32 := by decide
  exact z k h r hr hn

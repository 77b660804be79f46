/-! small facts that the walks use -/
def zb (P : Prop) [Decidable P] : Int32 := if P then 1 else 0
theorem zb_t {P : Prop} [Decidable P] (h : P) : zb P = 1 := if_pos h
theorem zb_f {P : Prop} [Decidable P] (h : ¬ P) : zb P = 0 := if_neg h
theorem zb_or (P : Prop) [Decidable P] : zb P = 0 ∨ zb P = 1 := by
  by_cases h : P
  · exact Or.inr (zb_t h)
  · exact Or.inl (zb_f h)
theorem zb_nar (P : Prop) [Decidable P] : narrow .boolean (.int (zb P)) = .int (zb P) := by
  rcases zb_or P with h | h <;> rw [h] <;> rfl
theorem zb_congr {P Q : Prop} [Decidable P] [Decidable Q] (h : P ↔ Q) : zb P = zb Q := by
  by_cases q : Q
  · rw [zb_t q, zb_t (h.mpr q)]
  · rw [zb_f q, zb_f (fun p => q (h.mp p))]
theorem zne_sh {h : zH} {a b : Nat} {e1 e2 : va_E} (ha : h a = some e1) (hb : h b = some e2) (hn : e1 ≠ e2) : b ≠ a := fun q => by
  rw [q] at hb
  exact hn (Option.some.inj (ha.symm.trans hb))
theorem zne_oo {h : zH} {a b ci cj : Nat} {fs gs : List Value} (ha : h a = some (.inr (ci, fs))) (hb : h b = some (.inr (cj, gs))) (hn : ci ≠ cj) : b ≠ a := zne_sh ha hb (fun q => hn (by cases q; rfl))
theorem zne_oi {h : zH} {a b ci : Nat} {fs : List Value} {x : ClassId} {n : Nat} {f : Nat → Int32} (ha : h a = some (.inr (ci, fs))) (hb : h b = some (.inl (x, n, .inl f))) : b ≠ a := zne_sh ha hb (fun q => by cases q)
theorem zne_io {h : zH} {a b ci : Nat} {fs : List Value} {x : ClassId} {n : Nat} {f : Nat → Int32} (hb : h a = some (.inl (x, n, .inl f))) (ha : h b = some (.inr (ci, fs))) : b ≠ a := zne_sh hb ha (fun q => by cases q)
theorem zne_ol {h : zH} {a b ci : Nat} {fs : List Value} {x : ClassId} {n : Nat} {f : Nat → Int64} (ha : h a = some (.inr (ci, fs))) (hb : h b = some (.inl (x, n, .inr (.inl f)))) : b ≠ a := zne_sh ha hb (fun q => by cases q)
theorem zne_lo {h : zH} {a b ci : Nat} {fs : List Value} {x : ClassId} {n : Nat} {f : Nat → Int64} (hb : h a = some (.inl (x, n, .inr (.inl f)))) (ha : h b = some (.inr (ci, fs))) : b ≠ a := zne_sh hb ha (fun q => by cases q)
theorem zne_oq {h : zH} {a b ci : Nat} {fs : List Value} {x : ClassId} {n : Nat} {f : Nat → Option Nat} (ha : h a = some (.inr (ci, fs))) (hb : h b = some (.inl (x, n, .inr (.inr (.inr (.inr f)))))) : b ≠ a := zne_sh ha hb (fun q => by cases q)
theorem zne_qo {h : zH} {a b ci : Nat} {fs : List Value} {x : ClassId} {n : Nat} {f : Nat → Option Nat} (hb : h a = some (.inl (x, n, .inr (.inr (.inr (.inr f)))))) (ha : h b = some (.inr (ci, fs))) : b ≠ a := zne_sh hb ha (fun q => by cases q)
theorem zne_il {h : zH} {a b : Nat} {x y : ClassId} {n k : Nat} {f : Nat → Int32} {g : Nat → Int64} (ha : h a = some (.inl (x, n, .inl f))) (hb : h b = some (.inl (y, k, .inr (.inl g)))) : b ≠ a := zne_sh ha hb (fun q => by injection q with q; injection q with _ q; injection q with _ q; cases q)
theorem zne_li {h : zH} {a b : Nat} {x y : ClassId} {n k : Nat} {f : Nat → Int32} {g : Nat → Int64} (hb : h a = some (.inl (y, k, .inr (.inl g)))) (ha : h b = some (.inl (x, n, .inl f))) : b ≠ a := fun q => zne_il ha hb q.symm
theorem zne_iq {h : zH} {a b : Nat} {x y : ClassId} {n k : Nat} {f : Nat → Int32} {g : Nat → Option Nat} (ha : h a = some (.inl (x, n, .inl f))) (hb : h b = some (.inl (y, k, .inr (.inr (.inr (.inr g)))))) : b ≠ a := zne_sh ha hb (fun q => by injection q with q; injection q with _ q; injection q with _ q; cases q)
theorem zne_qi {h : zH} {a b : Nat} {x y : ClassId} {n k : Nat} {f : Nat → Int32} {g : Nat → Option Nat} (hb : h a = some (.inl (y, k, .inr (.inr (.inr (.inr g)))))) (ha : h b = some (.inl (x, n, .inl f))) : b ≠ a := fun q => zne_iq ha hb q.symm
theorem zne_lq {h : zH} {a b : Nat} {x y : ClassId} {n k : Nat} {f : Nat → Int64} {g : Nat → Option Nat} (ha : h a = some (.inl (x, n, .inr (.inl f)))) (hb : h b = some (.inl (y, k, .inr (.inr (.inr (.inr g)))))) : b ≠ a := zne_sh ha hb (fun q => by injection q with q; injection q with _ q; injection q with _ q; injection q with q; cases q)
theorem zne_ql {h : zH} {a b : Nat} {x y : ClassId} {n k : Nat} {f : Nat → Int64} {g : Nat → Option Nat} (hb : h a = some (.inl (y, k, .inr (.inr (.inr (.inr g)))))) (ha : h b = some (.inl (x, n, .inr (.inl f)))) : b ≠ a := fun q => zne_lq ha hb q.symm
theorem zne_new {h : zH} {q b : Nat} {e : va_E} (hn : h q = none) (hb : h b = some e) : b ≠ q := fun z => by rw [z, hn] at hb; cases hb
theorem lgc_le (x y : Int64) : lg_cmp x y ≤ 0 ↔ x ≤ y := lg_cmp_le x y
theorem lgc_le_f (x y : Int64) : (¬ lg_cmp x y ≤ 0) ↔ ¬ x ≤ y := not_congr (lg_cmp_le x y)
theorem lgc_lt (x y : Int64) : lg_cmp x y < 0 ↔ x < y := lg_cmp_lt x y
theorem lgc_lt_f (x y : Int64) : (¬ lg_cmp x y < 0) ↔ ¬ x < y := not_congr (lg_cmp_lt x y)
theorem lgc_ge (x y : Int64) : 0 ≤ lg_cmp x y ↔ y ≤ x := lg_cmp_ge x y
theorem lgc_ge_f (x y : Int64) : (¬ 0 ≤ lg_cmp x y) ↔ ¬ y ≤ x := not_congr (lg_cmp_ge x y)
theorem lgc_gt (x y : Int64) : 0 < lg_cmp x y ↔ y < x := lg_cmp_gt x y
theorem lgc_gt_f (x y : Int64) : (¬ 0 < lg_cmp x y) ↔ ¬ y < x := not_congr (lg_cmp_gt x y)
theorem lgc_eq (x y : Int64) : lg_cmp x y = 0 ↔ x = y := lg_cmp_eq x y
theorem lgc_eq_f (x y : Int64) : (¬ lg_cmp x y = 0) ↔ ¬ x = y := not_congr (lg_cmp_eq x y)
theorem lgc_ne (x y : Int64) : (¬ lg_cmp x y = 0) ↔ ¬ x = y := not_congr (lg_cmp_eq x y)
theorem lgc_ne_f (x y : Int64) : lg_cmp x y = 0 ↔ x = y := lg_cmp_eq x y
theorem i32_lt {x y : Int32} : x < y ↔ x.toInt < y.toInt := Int32.lt_iff_toInt_lt
theorem i32_le {x y : Int32} : x ≤ y ↔ x.toInt ≤ y.toInt := Int32.le_iff_toInt_le
theorem i64_lt {x y : Int64} : x < y ↔ x.toInt < y.toInt := Int64.lt_iff_toInt_lt
theorem i64_le {x y : Int64} : x ≤ y ↔ x.toInt ≤ y.toInt := Int64.le_iff_toInt_le
/-- a whole number in a range is a natural one -/
theorem i32_in {x : Int32} {n : Nat} (hn : n < 2 ^ 31) (h0 : 0 ≤ x) (h1 : x < nI n) : ∃ j, j < n ∧ x = nI j := by
  refine vp_in_of (vp_in_iff.mpr ⟨?_, ?_⟩) hn
  · exact i32_le.mp h0
  · have := i32_lt.mp h1
    rw [nI_toInt hn] at this
    exact this
theorem i32_inle {x : Int32} {n : Nat} (hn : n + 1 < 2 ^ 31) (h0 : 0 ≤ x) (h1 : x ≤ nI n) : ∃ j, j ≤ n ∧ x = nI j := by
  obtain ⟨j, hj, e⟩ := i32_in (n := n + 1) hn h0 (by rw [i32_lt]; rw [i32_le] at h1; rw [nI_toInt (by omega)] at *; omega)
  exact ⟨j, by omega, e⟩
/-! texts and what stays -/
def zKp (S : Nat → Prop) (h h2 : zH) : Prop := ∀ b e, ¬ S b → h b = some e → h2 b = some e
theorem zk_rf (S : Nat → Prop) (h : zH) : zKp S h h := fun _ _ _ hb => hb
theorem zk_put {S : Nat → Prop} {h h1 h2 : zH} {a : Nat} {e : va_E} (k : zKp S h h1) (eh : h2 = zup h1 a e) (ha : S a) : zKp S h h2 := fun b x hb hx => by rw [eh, zup_ne _ _ (fun q => hb (by rw [q]; exact ha))]; exact k b x hb hx
theorem zk_new {S : Nat → Prop} {h h1 h2 : zH} {a : Nat} {e : va_E} (k : zKp S h h1) (eh : h2 = zup h1 a e) (ha : h1 a = none) : zKp S h h2 := fun b x hb hx => by rw [eh, zup_ne _ _ (zne_new ha (k b x hb hx))]; exact k b x hb hx
theorem zk_call {S S2 : Nat → Prop} {h h1 h2 : zH} (k : zKp S h h1) (k2 : zKp S2 h1 h2) (hs : ∀ b e, h b = some e → ¬ S b → ¬ S2 b) : zKp S h h2 := fun b x hb hx => k2 b x (hs b x hx hb) (k b x hb hx)
theorem zk_weak {S S2 : Nat → Prop} {h h2 : zH} (k : zKp S h h2) (hs : ∀ b e, h b = some e → ¬ S2 b → ¬ S b) : zKp S2 h h2 := fun b x hb hx => k b x (hs b x hx hb) hx
def tbs (t : List Nat) (f : Nat → Int32) : Prop := ∀ j, j < t.length → f j = nI (t.getD j 0)
def asc (t : List Nat) : Prop := ∀ c ∈ t, c < 128
def zSB (G : zG) (h : zH) (sb ar cap : Nat) (f : Nat → Int32) (t : List Nat) : Prop := h sb = some (.inr (1, [.ref ar, .int 0, .int 0, .int (nI t.length)])) ∧ h ar = some (.inl (gc G 2, cap, .inl f)) ∧ t.length ≤ cap ∧ cap ≤ 1000 ∧ tbs t f ∧ sb_Fit f
/-- a text at a: its bytes at b -/
def zTt (G : zG) (h : zH) (a b : Nat) (f : Nat → Int32) (t : List Nat) : Prop := zTx G h a b t.length f ∧ tbs t f ∧ asc t ∧ sb_Fit f
theorem asc_fit {c : Nat} (h : c < 128) : fits .byte (.int (nI c)) = true := by
  have k : ∀ c, c < 128 → fits .byte (.int (nI c)) = true := by decide +kernel
  exact k c h
theorem zTt.con {G : zG} {h : zH} {q : Nat × List Nat} (hq : q ∈ zCon) : zTt G h (gs G q.1) (gb G q.1) (fun j => nI (q.2.getD j 0)) q.2 := by
  have ha : asc q.2 := by
    have k : ∀ q ∈ zCon, ∀ c ∈ q.2, c < 128 := by decide +kernel
    exact k q hq
  refine ⟨Or.inr ⟨q, hq, rfl, rfl, rfl, rfl⟩, fun _ _ => rfl, ha, fun j => ?_⟩
  by_cases hj : j < q.2.length
  · exact asc_fit (by rw [List.getD_eq_getElem?_getD, List.getElem?_eq_getElem hj]; exact ha _ (List.getElem_mem hj))
  · have : q.2.getD j 0 = 0 := by rw [List.getD_eq_getElem?_getD, List.getElem?_eq_none (by omega)]; rfl
    show fits .byte (.int (nI (q.2.getD j 0))) = true
    rw [this]
    exact asc_fit (by decide)
theorem zTt.ext {G : zG} {h h2 : zH} {a b : Nat} {f : Nat → Int32} {t : List Nat} (ht : zTt G h a b f t) (hx : ∀ a e, h a = some e → h2 a = some e) : zTt G h2 a b f t := ⟨ht.1.ext hx, ht.2⟩
theorem sbF_nar (x : Int32) : fits .byte (.int (vp_nar .byte x)) = true := by rw [vp_nar_byte]; exact pk_fb x
theorem nar_asc {c : Nat} (h : c < 128) : vp_nar .byte (nI c) = nI c := by
  have k : ∀ c, c < 128 → vp_nar .byte (nI c) = nI c := by decide +kernel
  exact k c h
theorem tbs_app {t s : List Nat} {f g : Nat → Int32} (hf : tbs t f) (h1 : ∀ j, j < t.length → g j = f j) (h2 : ∀ j, j < s.length → g (t.length + j) = nI (s.getD j 0)) : tbs (t ++ s) g := fun j hj => by
  rw [List.length_append] at hj
  by_cases q : j < t.length
  · rw [h1 j q, hf j q, List.getD_eq_getElem?_getD, List.getD_eq_getElem?_getD, List.getElem?_append_left q]
  · have e : j = t.length + (j - t.length) := by omega
    rw [e, h2 _ (by omega), List.getD_eq_getElem?_getD, List.getD_eq_getElem?_getD, List.getElem?_append_right (by omega), show t.length + (j - t.length) - t.length = j - t.length by omega]
theorem i_shr0 (n : Nat) : nI n >>> ((0 : Int32) &&& 31) = nI n := sb_shr0 (nI n)
theorem i_shl0 (n : Nat) : nI n <<< ((0 : Int32) &&& 31) = nI n := sb_shl0 (nI n)
theorem vpin {n N : Nat} (h : n < N) (hN : N < 2 ^ 31) : vp_in (nI n) N := vp_in_nI h hN
/-! comparisons of natural numbers -/
theorem nn_lt {a b : Nat} (ha : a < 2 ^ 31) (hb : b < 2 ^ 31) : nI a < nI b ↔ a < b := nI_ltI ha hb
theorem nn_lt_f {a b : Nat} (ha : a < 2 ^ 31) (hb : b < 2 ^ 31) : ¬ nI a < nI b ↔ ¬ a < b := not_congr (nI_ltI ha hb)
theorem nk_lt {a : Nat} {y : Int32} (b : Nat) (hy : y = nI b) (ha : a < 2 ^ 31) (hb : b < 2 ^ 31) : nI a < y ↔ a < b := by rw [hy]; exact nI_ltI ha hb
theorem nk_lt_f {a : Nat} {y : Int32} (b : Nat) (hy : y = nI b) (ha : a < 2 ^ 31) (hb : b < 2 ^ 31) : ¬ nI a < y ↔ ¬ a < b := not_congr (nk_lt b hy ha hb)
theorem kn_lt {a : Nat} {y : Int32} (b : Nat) (hy : y = nI b) (ha : a < 2 ^ 31) (hb : b < 2 ^ 31) : y < nI a ↔ b < a := by rw [hy]; exact nI_ltI hb ha
theorem kn_lt_f {a : Nat} {y : Int32} (b : Nat) (hy : y = nI b) (ha : a < 2 ^ 31) (hb : b < 2 ^ 31) : ¬ y < nI a ↔ ¬ b < a := not_congr (kn_lt b hy ha hb)
theorem nn_le {a b : Nat} (ha : a < 2 ^ 31) (hb : b < 2 ^ 31) : nI a ≤ nI b ↔ a ≤ b := nI_leI ha hb
theorem nn_le_f {a b : Nat} (ha : a < 2 ^ 31) (hb : b < 2 ^ 31) : ¬ nI a ≤ nI b ↔ ¬ a ≤ b := not_congr (nI_leI ha hb)
theorem nk_le {a : Nat} {y : Int32} (b : Nat) (hy : y = nI b) (ha : a < 2 ^ 31) (hb : b < 2 ^ 31) : nI a ≤ y ↔ a ≤ b := by rw [hy]; exact nI_leI ha hb
theorem nk_le_f {a : Nat} {y : Int32} (b : Nat) (hy : y = nI b) (ha : a < 2 ^ 31) (hb : b < 2 ^ 31) : ¬ nI a ≤ y ↔ ¬ a ≤ b := not_congr (nk_le b hy ha hb)
theorem kn_le {a : Nat} {y : Int32} (b : Nat) (hy : y = nI b) (ha : a < 2 ^ 31) (hb : b < 2 ^ 31) : y ≤ nI a ↔ b ≤ a := by rw [hy]; exact nI_leI hb ha
theorem kn_le_f {a : Nat} {y : Int32} (b : Nat) (hy : y = nI b) (ha : a < 2 ^ 31) (hb : b < 2 ^ 31) : ¬ y ≤ nI a ↔ ¬ b ≤ a := not_congr (kn_le b hy ha hb)
theorem nn_ge {a b : Nat} (ha : a < 2 ^ 31) (hb : b < 2 ^ 31) : nI b ≤ nI a ↔ b ≤ a := nI_leI hb ha
theorem nn_ge_f {a b : Nat} (ha : a < 2 ^ 31) (hb : b < 2 ^ 31) : ¬ nI b ≤ nI a ↔ ¬ b ≤ a := not_congr (nI_leI hb ha)
theorem nk_ge {a : Nat} {y : Int32} (b : Nat) (hy : y = nI b) (ha : a < 2 ^ 31) (hb : b < 2 ^ 31) : y ≤ nI a ↔ b ≤ a := by rw [hy]; exact nI_leI hb ha
theorem nk_ge_f {a : Nat} {y : Int32} (b : Nat) (hy : y = nI b) (ha : a < 2 ^ 31) (hb : b < 2 ^ 31) : ¬ y ≤ nI a ↔ ¬ b ≤ a := not_congr (nk_ge b hy ha hb)
theorem kn_ge {a : Nat} {y : Int32} (b : Nat) (hy : y = nI b) (ha : a < 2 ^ 31) (hb : b < 2 ^ 31) : nI a ≤ y ↔ a ≤ b := by rw [hy]; exact nI_leI ha hb
theorem kn_ge_f {a : Nat} {y : Int32} (b : Nat) (hy : y = nI b) (ha : a < 2 ^ 31) (hb : b < 2 ^ 31) : ¬ nI a ≤ y ↔ ¬ a ≤ b := not_congr (kn_ge b hy ha hb)
theorem nn_gt {a b : Nat} (ha : a < 2 ^ 31) (hb : b < 2 ^ 31) : nI b < nI a ↔ b < a := nI_ltI hb ha
theorem nn_gt_f {a b : Nat} (ha : a < 2 ^ 31) (hb : b < 2 ^ 31) : ¬ nI b < nI a ↔ ¬ b < a := not_congr (nI_ltI hb ha)
theorem nk_gt {a : Nat} {y : Int32} (b : Nat) (hy : y = nI b) (ha : a < 2 ^ 31) (hb : b < 2 ^ 31) : y < nI a ↔ b < a := by rw [hy]; exact nI_ltI hb ha
theorem nk_gt_f {a : Nat} {y : Int32} (b : Nat) (hy : y = nI b) (ha : a < 2 ^ 31) (hb : b < 2 ^ 31) : ¬ y < nI a ↔ ¬ b < a := not_congr (nk_gt b hy ha hb)
theorem kn_gt {a : Nat} {y : Int32} (b : Nat) (hy : y = nI b) (ha : a < 2 ^ 31) (hb : b < 2 ^ 31) : nI a < y ↔ a < b := by rw [hy]; exact nI_ltI ha hb
theorem kn_gt_f {a : Nat} {y : Int32} (b : Nat) (hy : y = nI b) (ha : a < 2 ^ 31) (hb : b < 2 ^ 31) : ¬ nI a < y ↔ ¬ a < b := not_congr (kn_gt b hy ha hb)
theorem nn_eq {a b : Nat} (ha : a < 2 ^ 31) (hb : b < 2 ^ 31) : nI a = nI b ↔ a = b := nI_eq ha hb
theorem nn_eq_f {a b : Nat} (ha : a < 2 ^ 31) (hb : b < 2 ^ 31) : ¬ nI a = nI b ↔ ¬ a = b := not_congr (nI_eq ha hb)
theorem nk_eq {a : Nat} {y : Int32} (b : Nat) (hy : y = nI b) (ha : a < 2 ^ 31) (hb : b < 2 ^ 31) : nI a = y ↔ a = b := by rw [hy]; exact nI_eq ha hb
theorem nk_eq_f {a : Nat} {y : Int32} (b : Nat) (hy : y = nI b) (ha : a < 2 ^ 31) (hb : b < 2 ^ 31) : ¬ nI a = y ↔ ¬ a = b := not_congr (nk_eq b hy ha hb)
theorem kn_eq {a : Nat} {y : Int32} (b : Nat) (hy : y = nI b) (ha : a < 2 ^ 31) (hb : b < 2 ^ 31) : y = nI a ↔ b = a := by rw [hy]; exact nI_eq hb ha
theorem kn_eq_f {a : Nat} {y : Int32} (b : Nat) (hy : y = nI b) (ha : a < 2 ^ 31) (hb : b < 2 ^ 31) : ¬ y = nI a ↔ ¬ b = a := not_congr (kn_eq b hy ha hb)
theorem nn_ne {a b : Nat} (ha : a < 2 ^ 31) (hb : b < 2 ^ 31) : ¬ nI a = nI b ↔ ¬ a = b := nn_eq_f ha hb
theorem nn_ne_f {a b : Nat} (ha : a < 2 ^ 31) (hb : b < 2 ^ 31) : nI a = nI b ↔ a = b := nn_eq ha hb
theorem nk_ne {a : Nat} {y : Int32} (b : Nat) (hy : y = nI b) (ha : a < 2 ^ 31) (hb : b < 2 ^ 31) : ¬ nI a = y ↔ ¬ a = b := nk_eq_f b hy ha hb
theorem nk_ne_f {a : Nat} {y : Int32} (b : Nat) (hy : y = nI b) (ha : a < 2 ^ 31) (hb : b < 2 ^ 31) : nI a = y ↔ a = b := nk_eq b hy ha hb
theorem kn_ne {a : Nat} {y : Int32} (b : Nat) (hy : y = nI b) (ha : a < 2 ^ 31) (hb : b < 2 ^ 31) : ¬ y = nI a ↔ ¬ b = a := kn_eq_f b hy ha hb
theorem kn_ne_f {a : Nat} {y : Int32} (b : Nat) (hy : y = nI b) (ha : a < 2 ^ 31) (hb : b < 2 ^ 31) : y = nI a ↔ b = a := kn_eq b hy ha hb
/-- writing a cell that was none at first -/
theorem zk_pub {S : Nat → Prop} {h h1 h2 : zH} {a : Nat} {e : va_E} (k : zKp S h h1) (eh : h2 = zup h1 a e) (ha : h a = none) : zKp S h h2 := fun b x hb hx => by rw [eh, zup_ne _ _ (zne_new ha hx)]; exact k b x hb hx
/-! a difference against zero -/
theorem df_lt {a b : Nat} (ha : a < 2 ^ 30) (hb : b < 2 ^ 30) : (nI a - nI b) < 0 ↔ a < b := by
  rw [i32_lt, pk_sub_toInt ha hb]
  show _ ↔ _
  rw [show (0 : Int32).toInt = 0 from rfl]; omega
theorem df_lt_f {a b : Nat} (ha : a < 2 ^ 30) (hb : b < 2 ^ 30) : ¬ (nI a - nI b) < 0 ↔ ¬ a < b := not_congr (df_lt ha hb)
theorem df_le {a b : Nat} (ha : a < 2 ^ 30) (hb : b < 2 ^ 30) : (nI a - nI b) ≤ 0 ↔ a ≤ b := by
  rw [i32_le, pk_sub_toInt ha hb]
  show _ ↔ _
  rw [show (0 : Int32).toInt = 0 from rfl]; omega
theorem df_le_f {a b : Nat} (ha : a < 2 ^ 30) (hb : b < 2 ^ 30) : ¬ (nI a - nI b) ≤ 0 ↔ ¬ a ≤ b := not_congr (df_le ha hb)
theorem df_gt {a b : Nat} (ha : a < 2 ^ 30) (hb : b < 2 ^ 30) : 0 < (nI a - nI b) ↔ b < a := by
  rw [i32_lt, pk_sub_toInt ha hb]
  show _ ↔ _
  rw [show (0 : Int32).toInt = 0 from rfl]; omega
theorem df_gt_f {a b : Nat} (ha : a < 2 ^ 30) (hb : b < 2 ^ 30) : ¬ 0 < (nI a - nI b) ↔ ¬ b < a := not_congr (df_gt ha hb)
theorem df_ge {a b : Nat} (ha : a < 2 ^ 30) (hb : b < 2 ^ 30) : 0 ≤ (nI a - nI b) ↔ b ≤ a := by
  rw [i32_le, pk_sub_toInt ha hb]
  show _ ↔ _
  rw [show (0 : Int32).toInt = 0 from rfl]; omega
theorem df_ge_f {a b : Nat} (ha : a < 2 ^ 30) (hb : b < 2 ^ 30) : ¬ 0 ≤ (nI a - nI b) ↔ ¬ b ≤ a := not_congr (df_ge ha hb)
theorem df_eq {a b : Nat} (ha : a < 2 ^ 30) (hb : b < 2 ^ 30) : (nI a - nI b) = 0 ↔ a = b := by
  rw [← Int32.toInt_inj, pk_sub_toInt ha hb, show (0 : Int32).toInt = 0 from rfl]; omega
theorem df_eq_f {a b : Nat} (ha : a < 2 ^ 30) (hb : b < 2 ^ 30) : ¬ (nI a - nI b) = 0 ↔ ¬ a = b := not_congr (df_eq ha hb)
theorem df_ne {a b : Nat} (ha : a < 2 ^ 30) (hb : b < 2 ^ 30) : ¬ (nI a - nI b) = 0 ↔ ¬ a = b := not_congr (df_eq ha hb)
theorem df_ne_f {a b : Nat} (ha : a < 2 ^ 30) (hb : b < 2 ^ 30) : (nI a - nI b) = 0 ↔ a = b := df_eq ha hb
/-! a builder's steps -/
def zSt (h h2 : zH) (sb ar ar2 : Nat) : Prop := zKp (fun b => b = sb ∨ b = ar) h h2 ∧ (ar2 = ar ∨ h ar2 = none)
theorem zSt.rf {h : zH} {sb ar : Nat} : zSt h h sb ar ar := ⟨zk_rf _ _, Or.inl rfl⟩
theorem zSt.put {h h1 h2 : zH} {sb ar ar1 x : Nat} {e : va_E} (k : zSt h h1 sb ar ar1) (eh : h2 = zup h1 x e) (hx : x = sb ∨ x = ar1) : zSt h h2 sb ar ar1 := ⟨fun b y hb hy => by
  have q : b ≠ x := fun q => by
    subst q
    rcases hx with hx | hx
    · exact hb (Or.inl hx)
    · rcases k.2 with k2 | k2
      · exact hb (Or.inr (hx.trans k2))
      · rw [← hx, hy] at k2; cases k2
  rw [eh, zup_ne _ _ q]; exact k.1 b y hb hy, k.2⟩
theorem zSt.trans {h h1 h2 : zH} {sb ar ar1 ar2 : Nat} {e : va_E} (k1 : zSt h h1 sb ar ar1) (k2 : zSt h1 h2 sb ar1 ar2) (hs : h1 sb = some e) : zSt h h2 sb ar ar2 := by
  refine ⟨fun b y hb hy => k2.1 b y (fun q => ?_) (k1.1 b y hb hy), ?_⟩
  · rcases q with q | q
    · exact hb (Or.inl q)
    · rcases k1.2 with z | z
      · exact hb (Or.inr (q.trans z))
      · rw [← q, hy] at z; cases z
  · rcases k2.2 with z | z
    · rw [z]; exact k1.2
    · by_cases q : ar2 = ar
      · exact Or.inl q
      · right
        cases hq : h ar2 with
        | none => rfl
        | some x =>
          have : h1 ar2 = some x := k1.1 ar2 x (fun y => by
            rcases y with y | y
            · rw [y, hs] at z; cases z
            · exact q y) hq
          rw [this] at z; cases z
def zTn (G : zG) (ar a b : Nat) (g : Nat → Int32) (s : List Nat) : Prop := (∀ h', zTt G h' a b g s) ∨ b ≠ ar
theorem zTt.st {G : zG} {h h2 : zH} {sb ar ar2 cap a b : Nat} {f g : Nat → Int32} {t s : List Nat} (ht : zTt G h a b g s) (hd : zTn G ar a b g s) (hs : zSB G h sb ar cap f t) (k : zSt h h2 sb ar ar2) : zTt G h2 a b g s ∧ zTn G ar2 a b g s := by
  rcases hd with hd | hd
  · exact ⟨hd _, Or.inl hd⟩
  · obtain ⟨ht | ht, r⟩ := ht
    · obtain ⟨h1, h2'⟩ := ht
      obtain ⟨s1, s2, -⟩ := hs
      refine ⟨⟨Or.inl ⟨k.1 _ _ (fun q => ?_) h1, k.1 _ _ (fun q => ?_) h2'⟩, r⟩, Or.inr (fun q => ?_)⟩
      · rcases q with q | q
        · exact zne_oo s1 h1 (by decide) q
        · exact zne_io s2 h1 q
      · rcases q with q | q
        · exact zne_oi s1 h2' q
        · exact hd q
      · rcases k.2 with z | z
        · exact hd (q.trans z)
        · rw [← q, h2'] at z; cases z
    · exact ⟨⟨Or.inr ht, r⟩, Or.inl (fun _ => ⟨Or.inr ht, r⟩)⟩
theorem zTn.con {G : zG} {ar : Nat} {q : Nat × List Nat} (hq : q ∈ zCon) : zTn G ar (gs G q.1) (gb G q.1) (fun j => nI (q.2.getD j 0)) q.2 := Or.inl (fun _ => zTt.con hq)
theorem zup_of {h h2 : zH} {a : Nat} {e : va_E} (h1 : h2 a = some e) (hk : ∀ b, b ≠ a → h2 b = h b) : h2 = zup h a e := by
  funext b
  by_cases q : b = a
  · subst q; rw [h1, zup_self]
  · rw [zup_ne _ _ q, hk b q]
theorem nI_dec {p : Nat} (h : 0 < p) : nI p + Int32.ofInt (-1) = nI (p - 1) := by
  have e : Int32.ofInt (-1) = -1 := by decide
  rw [e]; exact sb_m1 h

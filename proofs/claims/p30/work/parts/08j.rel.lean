/-! THE LAW's arrays: 0 f, 1 a, 2 d, 3 v, 4 t, 5 b, 6 st -/
def LW (G : zG) (h : zH) (g : XGh) (ad : Nat → Nat) (F : Nat → Nat) (A D : Nat → Int32) (V : Nat → Nat) (B U : Nat → Int32) (S : Nat → Nat) : Prop :=
  (iC G h (ad 0) 60 (fN F) ∧ iC G h (ad 1) 60 A ∧ iC G h (ad 2) 60 D ∧ iC G h (ad 3) 6 (fN V) ∧ iC G h (ad 4) 64 B ∧ iC G h (ad 5) 8 U ∧ iC G h (ad 6) 8 (fN S)) ∧ (∀ i, i < 7 → qR g (ad i) = (0, 0)) ∧ ∀ i j, i < 7 → j < 7 → ad i = ad j → i = j
section
variable {G : zG} {h h2 : zH} {g g2 : XGh} {ad : Nat → Nat} {F V S : Nat → Nat} {A D B U : Nat → Int32} {x n : Nat} {s : ZS}
theorem LW.all (w : LW G h g ad F A D V B U S) {P : Nat → Prop} (k : ∀ i, i < 7 → (∃ n f, iC G h (ad i) n f) → P i) : ∀ i, i < 7 → P i := fun i hi => k i hi (by
  obtain ⟨⟨w0, w1, w2, w3, w4, w5, w6⟩, -⟩ := w
  have : i = 0 ∨ i = 1 ∨ i = 2 ∨ i = 3 ∨ i = 4 ∨ i = 5 ∨ i = 6 := by omega
  rcases this with rfl | rfl | rfl | rfl | rfl | rfl | rfl
  · exact ⟨_, _, w0⟩
  · exact ⟨_, _, w1⟩
  · exact ⟨_, _, w2⟩
  · exact ⟨_, _, w3⟩
  · exact ⟨_, _, w4⟩
  · exact ⟨_, _, w5⟩
  · exact ⟨_, _, w6⟩)
theorem LW.fr (w : LW G h g ad F A D V B U S) (f : XFr g g2 h h2) : LW G h2 g2 ad F A D V B U S := by
  have r2 : ∀ i, i < 7 → qR g2 (ad i) = (0, 0) := w.all (P := fun i => qR g2 (ad i) = (0, 0)) (fun i hi ⟨n, z, hz⟩ => (f _ _ hz (w.2.1 i hi)).2)
  obtain ⟨⟨w0, w1, w2, w3, w4, w5, w6⟩, r, inj⟩ := w
  exact ⟨⟨(f _ _ w0 (r 0 (by decide))).1, (f _ _ w1 (r 1 (by decide))).1, (f _ _ w2 (r 2 (by decide))).1, (f _ _ w3 (r 3 (by decide))).1, (f _ _ w4 (r 4 (by decide))).1, (f _ _ w5 (r 5 (by decide))).1, (f _ _ w6 (r 6 (by decide))).1⟩, r2, inj⟩
/-- cells that are known stay -/
theorem LW.mono (w : LW G h g ad F A D V B U S) (f : ∀ b e, h b = some e → h2 b = some e) : LW G h2 g ad F A D V B U S := by
  obtain ⟨⟨w0, w1, w2, w3, w4, w5, w6⟩, r, inj⟩ := w
  exact ⟨⟨f _ _ w0, f _ _ w1, f _ _ w2, f _ _ w3, f _ _ w4, f _ _ w5, f _ _ w6⟩, r, inj⟩
theorem LW.xi (w : LW G h g ad F A D V B U S) (hi : XI G h g x s) {i : Nat} {e : va_E} (hi7 : i < 7) (eh : h2 = zup h (ad i) e) : XI G h2 g x s := hi.keep (fun b e hb hr => by
  rw [eh, zup_ne _ _ (fun z => hr (by rw [z]; exact w.2.1 i hi7))]; exact hb)
/-- an array is written -/
theorem LW.put {i k : Nat} {v : Int32} {f : Nat → Int32} {L : Nat} (w : LW G h g ad F A D V B U S) (hi7 : i < 7) (eh : h2 = zup h (ad i) (.inl (gc G 0, L, .inl f))) {j : Nat} (hj : j < 7) (hn : j ≠ i) {n : Nat} {z : Nat → Int32} (hz : iC G h (ad j) n z) : iC G h2 (ad j) n z := by
  show h2 (ad j) = _
  rw [eh, zup_ne _ _ (fun y => hn (w.2.2 j i hj hi7 y))]; exact hz
variable {i v : Nat} {y : Int32}
theorem LW.p0 (w : LW G h g ad F A D V B U S) (hi : i < 2 ^ 31) (eh : h2 = zup h (ad 0) (.inl (gc G 0, 60, .inl (upd (fN F) (nI i).toNatClampNeg (nI v))))) : LW G h2 g ad (upN F i v) A D V B U S := by
  have p := fun {j : Nat} (hj : j < 7) (hn : j ≠ 0) {n : Nat} {z : Nat → Int32} (hz : iC G h (ad j) n z) => w.put (i := 0) (k := 0) (v := 0) (by decide) eh hj hn hz
  obtain ⟨⟨w0, w1, w2, w3, w4, w5, w6⟩, r, inj⟩ := w
  exact ⟨⟨by rw [← fN_up, ← upd_nI hi]; show h2 (ad 0) = _; rw [eh]; exact zup_self _ _ _, p (by decide) (by decide) w1, p (by decide) (by decide) w2, p (by decide) (by decide) w3, p (by decide) (by decide) w4, p (by decide) (by decide) w5, p (by decide) (by decide) w6⟩, r, inj⟩
theorem LW.p1 (w : LW G h g ad F A D V B U S) (hi : i < 2 ^ 31) (eh : h2 = zup h (ad 1) (.inl (gc G 0, 60, .inl (upd A (nI i).toNatClampNeg y)))) : LW G h2 g ad F (up2 A i y) D V B U S := by
  have p := fun {j : Nat} (hj : j < 7) (hn : j ≠ 1) {n : Nat} {z : Nat → Int32} (hz : iC G h (ad j) n z) => w.put (i := 1) (k := 0) (v := 0) (by decide) eh hj hn hz
  obtain ⟨⟨w0, w1, w2, w3, w4, w5, w6⟩, r, inj⟩ := w
  exact ⟨⟨p (by decide) (by decide) w0, by rw [← upd_nI hi]; show h2 (ad 1) = _; rw [eh]; exact zup_self _ _ _, p (by decide) (by decide) w2, p (by decide) (by decide) w3, p (by decide) (by decide) w4, p (by decide) (by decide) w5, p (by decide) (by decide) w6⟩, r, inj⟩
theorem LW.p2 (w : LW G h g ad F A D V B U S) (hi : i < 2 ^ 31) (eh : h2 = zup h (ad 2) (.inl (gc G 0, 60, .inl (upd D (nI i).toNatClampNeg y)))) : LW G h2 g ad F A (up2 D i y) V B U S := by
  have p := fun {j : Nat} (hj : j < 7) (hn : j ≠ 2) {n : Nat} {z : Nat → Int32} (hz : iC G h (ad j) n z) => w.put (i := 2) (k := 0) (v := 0) (by decide) eh hj hn hz
  obtain ⟨⟨w0, w1, w2, w3, w4, w5, w6⟩, r, inj⟩ := w
  exact ⟨⟨p (by decide) (by decide) w0, p (by decide) (by decide) w1, by rw [← upd_nI hi]; show h2 (ad 2) = _; rw [eh]; exact zup_self _ _ _, p (by decide) (by decide) w3, p (by decide) (by decide) w4, p (by decide) (by decide) w5, p (by decide) (by decide) w6⟩, r, inj⟩
theorem LW.p3 (w : LW G h g ad F A D V B U S) (hi : i < 2 ^ 31) (eh : h2 = zup h (ad 3) (.inl (gc G 0, 6, .inl (upd (fN V) (nI i).toNatClampNeg (nI v))))) : LW G h2 g ad F A D (upN V i v) B U S := by
  have p := fun {j : Nat} (hj : j < 7) (hn : j ≠ 3) {n : Nat} {z : Nat → Int32} (hz : iC G h (ad j) n z) => w.put (i := 3) (k := 0) (v := 0) (by decide) eh hj hn hz
  obtain ⟨⟨w0, w1, w2, w3, w4, w5, w6⟩, r, inj⟩ := w
  exact ⟨⟨p (by decide) (by decide) w0, p (by decide) (by decide) w1, p (by decide) (by decide) w2, by rw [← fN_up, ← upd_nI hi]; show h2 (ad 3) = _; rw [eh]; exact zup_self _ _ _, p (by decide) (by decide) w4, p (by decide) (by decide) w5, p (by decide) (by decide) w6⟩, r, inj⟩
theorem LW.p4 (w : LW G h g ad F A D V B U S) (hi : i < 2 ^ 31) (eh : h2 = zup h (ad 4) (.inl (gc G 0, 64, .inl (upd B (nI i).toNatClampNeg y)))) : LW G h2 g ad F A D V (up2 B i y) U S := by
  have p := fun {j : Nat} (hj : j < 7) (hn : j ≠ 4) {n : Nat} {z : Nat → Int32} (hz : iC G h (ad j) n z) => w.put (i := 4) (k := 0) (v := 0) (by decide) eh hj hn hz
  obtain ⟨⟨w0, w1, w2, w3, w4, w5, w6⟩, r, inj⟩ := w
  exact ⟨⟨p (by decide) (by decide) w0, p (by decide) (by decide) w1, p (by decide) (by decide) w2, p (by decide) (by decide) w3, by rw [← upd_nI hi]; show h2 (ad 4) = _; rw [eh]; exact zup_self _ _ _, p (by decide) (by decide) w5, p (by decide) (by decide) w6⟩, r, inj⟩
theorem LW.p5 (w : LW G h g ad F A D V B U S) (hi : i < 2 ^ 31) (eh : h2 = zup h (ad 5) (.inl (gc G 0, 8, .inl (upd U (nI i).toNatClampNeg y)))) : LW G h2 g ad F A D V B (up2 U i y) S := by
  have p := fun {j : Nat} (hj : j < 7) (hn : j ≠ 5) {n : Nat} {z : Nat → Int32} (hz : iC G h (ad j) n z) => w.put (i := 5) (k := 0) (v := 0) (by decide) eh hj hn hz
  obtain ⟨⟨w0, w1, w2, w3, w4, w5, w6⟩, r, inj⟩ := w
  exact ⟨⟨p (by decide) (by decide) w0, p (by decide) (by decide) w1, p (by decide) (by decide) w2, p (by decide) (by decide) w3, p (by decide) (by decide) w4, by rw [← upd_nI hi]; show h2 (ad 5) = _; rw [eh]; exact zup_self _ _ _, p (by decide) (by decide) w6⟩, r, inj⟩
theorem LW.p6 (w : LW G h g ad F A D V B U S) (hi : i < 2 ^ 31) (eh : h2 = zup h (ad 6) (.inl (gc G 0, 8, .inl (upd (fN S) (nI i).toNatClampNeg (nI v))))) : LW G h2 g ad F A D V B U (upN S i v) := by
  have p := fun {j : Nat} (hj : j < 7) (hn : j ≠ 6) {n : Nat} {z : Nat → Int32} (hz : iC G h (ad j) n z) => w.put (i := 6) (k := 0) (v := 0) (by decide) eh hj hn hz
  obtain ⟨⟨w0, w1, w2, w3, w4, w5, w6⟩, r, inj⟩ := w
  exact ⟨⟨p (by decide) (by decide) w0, p (by decide) (by decide) w1, p (by decide) (by decide) w2, p (by decide) (by decide) w3, p (by decide) (by decide) w4, p (by decide) (by decide) w5, by rw [← fN_up, ← upd_nI hi]; show h2 (ad 6) = _; rw [eh]; exact zup_self _ _ _⟩, r, inj⟩
end
/-! the state and the arrays -/
def ET (s : ZS) (B : Nat → Int32) : Prop := rN s ≤ 2 ∧ ∀ k, k < 2 → (k < rN s → B (32 * k) = nI (rT s k) ∧ B (32 * k + 1) = nI (rB s k) ∧ B (32 * k + 2) = rW s k ∧ ∀ z, z < 9 → B (32 * k + 4 + z) = rL s k z) ∧ B (32 * k + 3) = rE s k ∧ (∀ z, z < 9 → B (32 * k + 13 + z) = rC s k z ∧ B (32 * k + 22 + z) = b01 (rV s k z)) ∧ ∀ z, 9 ≤ z → z < 20 → rL s k z = -1 ∧ rC s k z = 0
def EU (s : ZS) (U : Nat → Int32) (w : Nat) : Prop := bN s ≤ 2 ∧ ∀ k, k < 2 → (k < bN s → U (4 * k) = bF s k ∧ U (4 * k + 1) = nI (bT s k) ∧ U (4 * k + 2) = bP s k) ∧ (U (4 * k + 3)).toInt64 = bU s k ∧ 0 ≤ (U (4 * k + 3)).toInt ∧ (U (4 * k + 3)).toInt ≤ w
def ES (s : ZS) (S : Nat → Nat) (T : Nat → List Tok) (lv : Nat → Nat) (N : Nat) : Prop := ∀ i, i < (oS s).length → S i < N ∧ sF s i = (T (S i), lv (S i))
/-- all of it -/
def RS (s : ZS) (F : Nat → Nat) (A D : Nat → Int32) (V : Nat → Nat) (B U : Nat → Int32) (S : Nat → Nat) (T : Nat → List Tok) (lv : Nat → Nat) (N w : Nat) : Prop :=
  EV s F A D T lv N ∧ ES s S T lv N ∧ (∀ t, t < oN s → V t = oL s t) ∧ ((∀ t q, t < oN s → 9 ≤ q → q < 20 → oD s t q = none) ∧ ∀ t q, oN s ≤ t → t < 6 → q < 10 → D (10 * t + q) = -1) ∧ ET s B ∧ EU s U w
/-! counts -/
theorem cnt_add (p : Nat → Bool) (a b : Nat) : cnt p (a + b) = cnt p a + cnt (fun i => p (a + i)) b := by
  induction b with
  | zero => rfl
  | succ b ih =>
    show cnt p (a + b) + (if p (a + b) = true then 1 else 0) = cnt p a + (cnt (fun i => p (a + i)) b + (if p (a + b) = true then 1 else 0))
    rw [ih]; omega
theorem cnt_le (p : Nat → Bool) (n : Nat) : cnt p n ≤ n := by
  induction n with
  | zero => exact Nat.le_refl _
  | succ n ih =>
    show cnt p n + (if p n = true then 1 else 0) ≤ n + 1
    split <;> omega
theorem cnt_0 {p : Nat → Bool} {n : Nat} (h : ∀ i, i < n → p i = false) : cnt p n = 0 := by
  induction n with
  | zero => rfl
  | succ n ih =>
    show cnt p n + (if p n = true then 1 else 0) = 0
    rw [ih (fun i hi => h i (by omega)), h n (by omega)]; rfl
theorem cnt_t {p : Nat → Bool} {n : Nat} (h : p n = true) : cnt p (n + 1) = cnt p n + 1 := by
  show cnt p n + (if p n = true then 1 else 0) = _
  rw [if_pos h]
theorem cnt_f {p : Nat → Bool} {n : Nat} (h : ¬ p n = true) : cnt p (n + 1) = cnt p n := by
  show cnt p n + (if p n = true then 1 else 0) = _
  rw [if_neg h]; rfl
abbrev isB (s : ZS) (k : Nat) : Nat → Bool := fun q => decide (vState s k q = 4)
/-- broken ones in the quarters from a on, n of them, of the tests below k -/
def bk (s : ZS) (a n : Nat) : Nat → Nat
  | 0 => 0
  | k + 1 => bk s a n k + cnt (fun q => isB s k (a + q)) n
theorem bk_le (s : ZS) (a n k : Nat) : bk s a n k ≤ n * k := by
  induction k with
  | zero => exact Nat.zero_le _
  | succ k ih =>
    have := cnt_le (fun q => isB s k (a + q)) n
    show bk s a n k + _ ≤ n * (k + 1)
    rw [Nat.mul_add]; omega
theorem bk_all (s : ZS) (k : Nat) : vBroken s k = bk s 0 9 k + bk s 9 11 k := by
  induction k with
  | zero => rfl
  | succ k ih =>
    have e : cnt (isB s k) 20 = cnt (isB s k) 9 + cnt (fun q => isB s k (9 + q)) 11 := cnt_add (isB s k) 9 11
    have e0 : cnt (fun q => isB s k (0 + q)) 9 = cnt (isB s k) 9 := cnt_congr (fun i _ => by rw [Nat.zero_add])
    show vBroken s k + cnt (isB s k) 20 = (bk s 0 9 k + cnt (fun q => isB s k (0 + q)) 9) + (bk s 9 11 k + cnt (fun q => isB s k (9 + q)) 11)
    rw [ih, e, e0]; omega
/-! states -/
section
variable {s : ZS} {k q : Nat}
theorem vs_d (h : dozes s k q ∨ lmA (rL s k) q = -1) : vState s k q = 0 := if_pos h
theorem vs_1 (h : ¬ (dozes s k q ∨ lmA (rL s k) q = -1)) (h1 : 0 < oV s (rB s k) q ∧ 100 * oV s (rT s k) q ≤ (lmA (rL s k) q).toInt64 * oV s (rB s k) q) : vState s k q = 1 := by
  unfold vState
  rw [if_neg h, if_pos (by unfold kept; rw [Int64.add_zero]; exact h1)]
theorem vs_k0 (h1 : ¬ (0 < oV s (rB s k) q ∧ 100 * oV s (rT s k) q ≤ (lmA (rL s k) q).toInt64 * oV s (rB s k) q)) : ¬ kept s k q 0 := by
  unfold kept; rw [Int64.add_zero]; exact h1
theorem vs_2 (h : ¬ (dozes s k q ∨ lmA (rL s k) q = -1)) (h1 : ¬ kept s k q 0) (h2 : kept s k q (rC s k q).toInt64) : vState s k q = 2 := by
  unfold vState
  rw [if_neg h, if_neg h1, if_pos h2]
theorem vs_3 (h : ¬ (dozes s k q ∨ lmA (rL s k) q = -1)) (h1 : ¬ kept s k q 0) (h2 : ¬ kept s k q (rC s k q).toInt64) (h3 : rV s k q = true) : vState s k q = 3 := by
  unfold vState
  rw [if_neg h, if_neg h1, if_neg h2, if_pos h3]
theorem vs_4 (h : ¬ (dozes s k q ∨ lmA (rL s k) q = -1)) (h1 : ¬ kept s k q 0) (h2 : ¬ kept s k q (rC s k q).toInt64) (h3 : ¬ rV s k q = true) : vState s k q = 4 := by
  unfold vState
  rw [if_neg h, if_neg h1, if_neg h2, if_neg h3]
theorem lmA_wth {l : Nat → Int32} (h : ∀ z, z ≤ q → wth (l z) (-1) 10000) : wth (lmA l q) (-1) 10000 := by
  induction q with
  | zero => exact h 0 (Nat.le_refl _)
  | succ q ih =>
    show wth (if l (q + 1) = -1 then lmA l q else l (q + 1)) (-1) 10000
    split
    · exact ih (fun z hz => h z (by omega))
    · exact h _ (Nat.le_refl _)
theorem wth_m1 {v hi : Int32} (h : wth v (-1) hi) : v < 0 ↔ v = -1 := by
  have a := (wth_iff.mp h).1
  rw [i32_le, show ((-1 : Int32)).toInt = -1 from rfl] at a
  rw [i32_lt, show ((0 : Int32)).toInt = 0 from rfl]
  refine ⟨fun z => Int32.toInt_inj.mp (by rw [show ((-1 : Int32)).toInt = -1 from rfl]; omega), fun z => by rw [z]; decide⟩
end

/-! how large values are -/
theorem i64_add {x y : Int64} (h1 : -9223372036854775808 ≤ x.toInt + y.toInt) (h2 : x.toInt + y.toInt ≤ 9223372036854775807) : (x + y).toInt = x.toInt + y.toInt := by
  rw [Int64.toInt_add]; exact Int.bmod_eq_of_le (by omega) (by omega)
theorem i64_sub {x y : Int64} (h1 : -9223372036854775808 ≤ x.toInt - y.toInt) (h2 : x.toInt - y.toInt ≤ 9223372036854775807) : (x - y).toInt = x.toInt - y.toInt := by
  rw [Int64.toInt_sub]; exact Int.bmod_eq_of_le (by omega) (by omega)
theorem i64_mul {x y : Int64} (h1 : -9223372036854775808 ≤ x.toInt * y.toInt) (h2 : x.toInt * y.toInt ≤ 9223372036854775807) : (x * y).toInt = x.toInt * y.toInt := by
  rw [Int64.toInt_mul]; exact Int.bmod_eq_of_le (by omega) (by omega)
theorem lN64_toInt {n : Nat} (h : n < 2 ^ 31) : (lN64 n).toInt = n := by
  unfold lN64
  rw [Int32.toInt_toInt64, nI_toInt h]
theorem zfd_toInt (x : Int64) : (zfd x).toInt = x.toInt / 100 := by
  have h1 := x.le_toInt; have h2 := x.toInt_lt
  have a := Int.tdiv_eq_ediv (a := x.toInt) (b := 100); rw [show Int.sign 100 = 1 from rfl] at a
  unfold zfd
  by_cases h : x % 100 < 0
  · rw [if_pos h]
    have n := (zfd_neg x).mp h
    have e := zfd_div x
    have m := Int.mul_tdiv_add_tmod x.toInt 100
    rw [i64_sub (by rw [e, show (1 : Int64).toInt = 1 from rfl]; split at a <;> omega) (by rw [e, show (1 : Int64).toInt = 1 from rfl]; split at a <;> omega), e, show (1 : Int64).toInt = 1 from rfl]
    split at a <;> omega
  · rw [if_neg h, zfd_div]
    have n := fun z => h ((zfd_neg x).mpr z)
    have m := Int.mul_tdiv_add_tmod x.toInt 100
    by_cases q : x.toInt < 0
    · have z : x.toInt.tmod 100 = 0 := Decidable.not_not.mp (fun y => n ⟨q, y⟩)
      split at a <;> omega
    · split at a <;> omega
theorem vB_pos (n : Nat) : 1000000 ≤ vB n := by
  induction n with
  | zero => exact Int.le_refl _
  | succ n ih =>
    show 1000000 ≤ 4 * vB n
    omega
theorem vB_mono {m n : Nat} (h : m ≤ n) : vB m ≤ vB n := by
  induction n with
  | zero =>
    have : m = 0 := by omega
    subst this; exact Int.le_refl _
  | succ n ih =>
    by_cases q : m = n + 1
    · subst q; exact Int.le_refl _
    · have a := ih (by omega)
      have b := vB_pos n
      show vB m ≤ 4 * vB n
      omega
theorem vB_6 {n : Nat} (h : n ≤ 6) : vB n ≤ 4096000000 := Int.le_trans (vB_mono h) (by decide)
def bnd (x : Int64) (b : Int) : Prop := -b ≤ x.toInt ∧ x.toInt ≤ b
theorem syr_bnd {r : Nat → Int64} {q : Nat} {b : Int} (hq : q < 20) (hb : 0 ≤ b) (hb2 : b ≤ 4096000000) (h : ∀ z, z < 20 → bnd (r z) b) (k : Nat) (hk : k ≤ 4) : bnd (syr r q k) (k * b) := by
  induction k with
  | zero => exact ⟨by rw [show (syr r q 0).toInt = 0 from rfl]; simp, by rw [show (syr r q 0).toInt = 0 from rfl]; simp⟩
  | succ k ih =>
    have a := ih (by omega)
    have e : ((k + 1 : Nat) : Int) * b = k * b + b := by rw [Int.natCast_add, Int.add_mul]; simp
    have kb : (k : Int) * b ≤ 4 * 4096000000 := by
      have : k = 0 ∨ k = 1 ∨ k = 2 ∨ k = 3 := by omega
      rcases this with rfl | rfl | rfl | rfl <;> simp <;> omega
    show bnd (syr r q k + (if k ≤ q then r (q - k) else 0)) _
    rw [e]
    obtain ⟨a1, a2⟩ := a
    by_cases y : k ≤ q
    · rw [if_pos y]
      obtain ⟨c1, c2⟩ := h (q - k) (by omega)
      have t : (syr r q k + r (q - k)).toInt = (syr r q k).toInt + (r (q - k)).toInt := i64_add (by omega) (by omega)
      exact ⟨by rw [t]; omega, by rw [t]; omega⟩
    · rw [if_neg y, Int64.add_zero]
      exact ⟨by omega, by omega⟩
theorem sjn_bnd {k : Nat} {x y : Int64} {b : Int} (hb2 : b ≤ 4096000000) (hx : bnd x b) (hy : bnd y b) : bnd (sjn k x y) (4 * b) := by
  obtain ⟨x1, x2⟩ := hx; obtain ⟨y1, y2⟩ := hy
  unfold sjn
  by_cases h0 : k = 0
  · rw [if_pos h0]; have t : (x + y).toInt = x.toInt + y.toInt := i64_add (by omega) (by omega); exact ⟨by rw [t]; omega, by rw [t]; omega⟩
  · rw [if_neg h0]
    by_cases h1 : k = 1
    · rw [if_pos h1]; have t : (x - y).toInt = x.toInt - y.toInt := i64_sub (by omega) (by omega); exact ⟨by rw [t]; omega, by rw [t]; omega⟩
    · rw [if_neg h1]
      by_cases h2 : k = 2
      · rw [if_pos h2]; split <;> exact ⟨by omega, by omega⟩
      · rw [if_neg h2]; split <;> exact ⟨by omega, by omega⟩
theorem share_mul {x : Int64} {p : Nat} {b : Int} (hp : p ≤ 100) (hb : 0 ≤ b) (hb2 : b ≤ 4096000000) (hx : bnd x b) : (x * lN64 p).toInt = x.toInt * p ∧ -(100 * b) ≤ x.toInt * p ∧ x.toInt * p ≤ 100 * b := by
  obtain ⟨x1, x2⟩ := hx
  have l := lN64_toInt (n := p) (by omega)
  have p0 : (0 : Int) ≤ p := Int.natCast_nonneg _
  have p1 : (p : Int) ≤ 100 := by omega
  have u : x.toInt * p ≤ 100 * b := by
    have a : x.toInt * p ≤ b * p := Int.mul_le_mul_of_nonneg_right x2 p0
    have c : b * p ≤ b * 100 := Int.mul_le_mul_of_nonneg_left p1 hb
    omega
  have d : -(100 * b) ≤ x.toInt * p := by
    have a : -b * p ≤ x.toInt * p := Int.mul_le_mul_of_nonneg_right x1 p0
    have c : b * p ≤ b * 100 := Int.mul_le_mul_of_nonneg_left p1 hb
    rw [Int.neg_mul] at a
    omega
  refine ⟨?_, d, u⟩
  rw [i64_mul (by rw [l]; omega) (by rw [l]; omega), l]
theorem row_bnd {tl : Nat → Nat} {n N : Nat} {t : List Tok} (h : WL tl n t) (hn : n ≤ 6) (hg : gtk t ≤ N) {A V : Nat → Nat → Int64} (hA : ∀ a q, a < 6 → q < 20 → bnd (A a q) 1000000) (hV : ∀ k q, k < N → q < 20 → bnd (V k q) (vB (tl k))) : ∀ q, q < 20 → bnd (rowOf A V t q) (vB n) := by
  induction n generalizing t with
  | zero => exact absurd h id
  | succ n ih =>
    intro q hq
    have p1 := vB_pos n
    have p2 := vB_6 (show n ≤ 6 by omega)
    have e : vB (n + 1) = 4 * vB n := rfl
    rcases h with ⟨k, h1, rfl⟩ | ⟨k, h1, rfl⟩ | ⟨k, h1, h2, h3, rfl⟩ | ⟨k, a, b, h1, h2, h3, rfl⟩ | ⟨p, a, h1, h2, rfl⟩ | ⟨a, h1, rfl⟩
    · obtain ⟨x1, x2⟩ := hA k q h1 hq
      show bnd (A k q) _
      exact ⟨by omega, by omega⟩
    · show bnd (lN64 k) _
      have l := lN64_toInt (n := k) (by omega)
      exact ⟨by rw [l]; omega, by rw [l]; omega⟩
    · obtain ⟨x1, x2⟩ := hV k q (by simp [gtk] at hg; omega) hq
      have m := vB_mono h2
      show bnd (V k q) _
      exact ⟨by omega, by omega⟩
    · rw [gtk_app, gtk_app] at hg
      rw [row_join h2 h3 h1, e]
      exact sjn_bnd p2 (ih h2 (by omega) (by omega) q hq) (ih h3 (by omega) (by omega) q hq)
    · rw [gtk_app] at hg
      rw [row_share h2, e]
      have x := ih h2 (by omega) (by omega) q hq
      obtain ⟨m1, m2, m3⟩ := share_mul h1 (by omega) p2 x
      show bnd (zfd (rowOf A V a q * lN64 p)) _
      have z := zfd_toInt (rowOf A V a q * lN64 p)
      rw [m1] at z
      exact ⟨by rw [z]; omega, by rw [z]; omega⟩
    · rw [gtk_app] at hg
      rw [row_year h1, e]
      exact syr_bnd hq (by omega) p2 (fun z hz => ih h1 (by omega) (by omega) z hz) 4 (by decide)
theorem wth_bnd {x : Int32} (h : wth x (-1000000) 1000000) : bnd x.toInt64 1000000 := by
  have a := wth_iff.mp h
  rw [i32_le, i32_le, show (-1000000 : Int32).toInt = -1000000 from rfl, show (1000000 : Int32).toInt = 1000000 from rfl] at a
  unfold bnd
  rw [Int32.toInt_toInt64]; omega
theorem shd_in {d : Nat → Option (List Tok)} {q : Nat} {f : List Tok} (h : shd d q = some f) : ∃ p, d p = some f := by
  induction q with
  | zero => exact ⟨0, h⟩
  | succ q ih =>
    cases hd : d (q + 1) with
    | none =>
      have h' : (match d (q + 1) with | some f => some f | none => shd d q) = some f := h
      rw [hd] at h'; exact ih h'
    | some g =>
      have h' : (match d (q + 1) with | some f => some f | none => shd d q) = some f := h
      rw [hd] at h'; exact ⟨q + 1, by rw [hd]; exact h'⟩
theorem shd_ne {d : Nat → Option (List Tok)} (h0 : d 0 ≠ none) (q : Nat) : ∃ f, shd d q = some f := by
  induction q with
  | zero =>
    cases hd : d 0 with
    | none => exact absurd hd h0
    | some f => exact ⟨f, hd⟩
  | succ q ih =>
    cases hd : d (q + 1) with
    | none => obtain ⟨f, hf⟩ := ih; exact ⟨f, by show (match d (q + 1) with | some f => some f | none => shd d q) = _; rw [hd]; exact hf⟩
    | some g => exact ⟨g, by show (match d (q + 1) with | some f => some f | none => shd d q) = _; rw [hd]⟩
theorem val_bnd {s : ZS} (hw : WFs s) : ∀ n, n ≤ oN s → ∀ k q, k < n → q < 20 → bnd (sval (oAL s) (oD s) n k q) (vB (oL s k)) := by
  intro n
  induction n with
  | zero => intro _ k q hk; exact absurd hk (by omega)
  | succ n ih =>
    intro hn k q hk hq
    show bnd ((if k = n then (fun q => rowOf (oAL s) (sval (oAL s) (oD s) n) ((shd (oD s n) q).getD []) q) else sval (oAL s) (oD s) n k : Nat → Int64) q) _
    by_cases y : k = n
    · subst y
      rw [if_pos rfl]
      have c := hw.2.2.1.2.1 k (by omega)
      obtain ⟨f, hf⟩ := shd_ne c.2.2.1 q
      obtain ⟨p, hp⟩ := shd_in hf
      have e := c.2.2.2 p f hp
      show bnd (rowOf (oAL s) (sval (oAL s) (oD s) k) ((shd (oD s k) q).getD []) q) _
      rw [hf]
      exact row_bnd e.1 c.2.1 e.2 (fun a q ha hq => wth_bnd (hw.2.2.2.1 a q ha hq)) (fun i q hi hq => ih (by omega) i q hi hq) q hq
    · rw [if_neg y]; exact ih (by omega) k q (by omega) hq
theorem oV_bnd {s : ZS} (hw : WFs s) {t q : Nat} (ht : t < oN s) (hq : q < 20) : bnd (oV s t q) 4096000000 := by
  obtain ⟨a, b⟩ := val_bnd hw (oN s) (Nat.le_refl _) t q ht hq
  have c := vB_6 (hw.2.2.1.2.1 t ht).2.1
  exact ⟨Int.le_trans (by omega) a, Int.le_trans b c⟩
theorem zfd_nn {y : Int64} (h : 0 ≤ y.toInt) : y / 100 = zfd y := (if_neg (fun z => by have := ((zfd_neg y).mp z).1; omega)).symm
theorem size_mul {x : Int64} {p : Int32} (hx : 0 < x) (hb : bnd x 4096000000) (hp : wth p 0 100) : x * p.toInt64 / 100 = zfd (x * p.toInt64) := by
  obtain ⟨n, hn, rfl⟩ := wth_nat (n := 100) hp (by decide) (by decide)
  have a := share_mul hn (by omega) (Int.le_refl _) hb
  apply zfd_nn
  show 0 ≤ (x * lN64 n).toInt
  rw [a.1]
  have x0 : 0 < x.toInt := by rw [i64_lt, show (0 : Int64).toInt = 0 from rfl] at hx; exact hx
  exact Int.mul_nonneg (by omega) (Int.natCast_nonneg _)
/-! windows of four quarters -/
def cw (c : Nat → Int32) (f : Nat) : Nat → Nat
  | 0 => 0
  | n + 1 => cw c f n + (if f + n < 9 ∧ ¬ c (f + n) = 0 then 1 else 0)
theorem cw_le (c : Nat → Int32) (f n : Nat) : cw c f n ≤ n := by
  induction n with
  | zero => exact Nat.le_refl _
  | succ n ih =>
    show cw c f n + (if f + n < 9 ∧ ¬ c (f + n) = 0 then 1 else 0) ≤ n + 1
    split <;> omega
theorem cw_up {c : Nat → Int32} {f n : Nat} (h : f + n < 9 ∧ ¬ c (f + n) = 0) : cw c f n + 1 = cw c f (n + 1) := by
  show _ = cw c f n + (if f + n < 9 ∧ ¬ c (f + n) = 0 then 1 else 0)
  rw [if_pos h]
theorem cw_st {c : Nat → Int32} {f n : Nat} (h : ¬ (f + n < 9 ∧ ¬ c (f + n) = 0)) : cw c f n = cw c f (n + 1) := by
  show _ = cw c f n + (if f + n < 9 ∧ ¬ c (f + n) = 0 then 1 else 0)
  rw [if_neg h, Nat.add_zero]
theorem cw_end {c : Nat → Int32} {f n m : Nat} (h : 9 ≤ f + n) (hm : n ≤ m) : cw c f m = cw c f n := by
  induction m with
  | zero => have : n = 0 := by omega
            subst this; rfl
  | succ m ih =>
    by_cases z : n = m + 1
    · subst z; rfl
    · rw [← cw_st (fun y => by omega)]; exact ih (by omega)
theorem cw_mono {c : Nat → Int32} {f n m : Nat} (h : n ≤ m) : cw c f n ≤ cw c f m := by
  induction m with
  | zero => have : n = 0 := by omega
            subst this; exact Nat.le_refl _
  | succ m ih =>
    by_cases z : n = m + 1
    · subst z; exact Nat.le_refl _
    · refine Nat.le_trans (ih (by omega)) ?_
      show cw c f m ≤ cw c f m + _
      omega
theorem cu_cw {c : Nat → Int32} {q i f : Nat} (hz : ∀ z, 9 ≤ z → z < 20 → c z = 0) (e : q + i = f + 3) (hf : f ≤ 8) (n : Nat) (hn : n ≤ 4) : cuF c q i n = cw c f n := by
  induction n with
  | zero => rfl
  | succ n ih =>
    show cuF c q i n + (if 3 ≤ q + i + n ∧ q + i + n < 23 ∧ ¬ c (q + i + n - 3) = 0 then 1 else 0) = cw c f n + (if f + n < 9 ∧ ¬ c (f + n) = 0 then 1 else 0)
    rw [ih (by omega), show q + i + n - 3 = f + n by omega]
    by_cases h : f + n < 9
    · by_cases y : c (f + n) = 0
      · rw [if_neg (fun z => z.2.2 y), if_neg (fun z => z.2 y)]
      · rw [if_pos ⟨by omega, by omega, y⟩, if_pos ⟨h, y⟩]
    · rw [if_neg (fun z => z.2.2 (hz _ (by omega) (by omega))), if_neg (fun z => h z.1)]
theorem cu_cw0 {c : Nat → Int32} {q i : Nat} (hi : q + i < 3) (n : Nat) (hn : n ≤ 4) : cuF c q i n ≤ cw c 0 (q + i + n - 3) := by
  induction n with
  | zero => exact Nat.zero_le _
  | succ n ih =>
    show cuF c q i n + (if 3 ≤ q + i + n ∧ q + i + n < 23 ∧ ¬ c (q + i + n - 3) = 0 then 1 else 0) ≤ _
    have a := ih (by omega)
    by_cases h : 3 ≤ q + i + n
    · rw [show q + i + (n + 1) - 3 = (q + i + n - 3) + 1 by omega]
      by_cases y : c (q + i + n - 3) = 0
      · rw [if_neg (fun z => z.2.2 y)]
        exact Nat.le_trans a (cw_mono (by omega))
      · rw [if_pos ⟨h, by omega, y⟩, ← cw_up ⟨by omega, by rw [Nat.zero_add]; exact y⟩]; omega
    · rw [if_neg (fun z => h z.1)]
      exact Nat.le_trans a (cw_mono (by omega))
/-- no window too full, or one that is -/
theorem cu_all {c : Nat → Int32} {q m : Nat} (hz : ∀ z, 9 ≤ z → z < 20 → c z = 0) (hq : q < 9) (h : ∀ f, f < 9 → f ≤ q → q < f + 4 → 1 + cw c f 4 ≤ m) (hm : m ≤ 2) : ∀ i, i < 4 → cuF c q i 4 < 2 := fun i hi => by
  by_cases z : 3 ≤ q + i
  · rw [cu_cw hz (f := q + i - 3) (by omega) (by omega) 4 (Nat.le_refl _)]
    have := h (q + i - 3) (by omega) (by omega) (by omega)
    omega
  · have a := cu_cw0 (c := c) (show q + i < 3 by omega) 4 (Nat.le_refl _)
    have b := cw_mono (c := c) (f := 0) (show q + i + 4 - 3 ≤ 4 by omega)
    have d := h 0 (by omega) (by omega) (by omega)
    omega
theorem cu_ex {c : Nat → Int32} {q m : Nat} (hz : ∀ z, 9 ≤ z → z < 20 → c z = 0) (h : m = 0 ∨ ∃ f, f < 9 ∧ f ≤ q ∧ q < f + 4 ∧ m = 1 + cw c f 4) (hm : 2 < m) : ∃ i, i < 4 ∧ 2 ≤ cuF c q i 4 := by
  rcases h with h | ⟨f, f1, f2, f3, f4⟩
  · omega
  · exact ⟨f + 3 - q, by omega, by rw [cu_cw hz (f := f) (by omega) (by omega) 4 (Nat.le_refl _)]; omega⟩
/-! signs -/
theorem nn_0 {k : Nat} (h : k < 2 ^ 31) : (0 : Int32) ≤ nI k := (nk_ge (y := 0) 0 rfl h (by decide)).mpr (Nat.zero_le _)
theorem oD_sgn {s : ZS} {F : Nat → Nat} {A D : Nat → Int32} {T : Nat → List Tok} {lv : Nat → Nat} {M t q : Nat} (he : EV s F A D T lv M) (ht : t < oN s) (hq : q < 10) : 0 ≤ D (10 * t + q) ↔ (oD s t q).isSome = true := by
  have hM := he.1
  rcases he.2.2.2.2 t ht q hq with ⟨a, b⟩ | ⟨k, a, b, c, -⟩
  · rw [a, b]; exact ⟨fun z => absurd z (by decide), fun z => absurd z (by decide)⟩
  · rw [b, c]; exact ⟨fun _ => rfl, fun _ => nn_0 (by omega)⟩
theorem rL_sgn {v hi : Int32} (h : wth v (-1) hi) : 0 ≤ v ↔ ¬ v = -1 := by
  rw [← wth_m1 h]; exact Int32.not_lt.symm
theorem rC_sgn {v hi : Int32} (h : wth v 0 hi) : 0 < v ↔ ¬ v = 0 := by
  have a := (wth_iff.mp h).1
  rw [i32_le] at a
  rw [i32_lt]
  refine ⟨fun z y => by rw [y] at z; exact absurd z (by decide), fun z => ?_⟩
  have : v.toInt ≠ (0 : Int32).toInt := fun y => z (Int32.toInt_inj.mp y)
  omega
theorem b01_not (b : Bool) : 1 - b01 b = b01 (!b) := by cases b <;> decide
theorem b01_z {b : Bool} (h : ¬ b01 b = 1) : b01 b = 0 := by
  cases b
  · rfl
  · exact absurd rfl h
theorem wk_a {u : Nat} {v : Int32} (h : u < 7) (e : v = nI u - 1) : v = -1 ∨ inN v 6 := by
  cases u with
  | zero => exact Or.inl (by rw [e]; decide)
  | succ u => exact Or.inr (by rw [e, nI_p1m1]; exact in_n (by omega) (by decide))
theorem lq_add {a b : Nat} (h : a + b < 2 ^ 31) : lN64 a + lN64 b = lN64 (a + b) := by
  rw [← Int64.toInt_inj, i64_add (by rw [lN64_toInt (by omega), lN64_toInt (by omega)]; omega) (by rw [lN64_toInt (by omega), lN64_toInt (by omega)]; omega), lN64_toInt (by omega), lN64_toInt (by omega), lN64_toInt h]; omega
theorem lq_sub {a b : Nat} (h : b ≤ a) (ha : a < 2 ^ 31) : lN64 a - lN64 b = lN64 (a - b) := by
  rw [← Int64.toInt_inj, i64_sub (by rw [lN64_toInt (by omega), lN64_toInt (by omega)]; omega) (by rw [lN64_toInt (by omega), lN64_toInt (by omega)]; omega), lN64_toInt (by omega), lN64_toInt (by omega), lN64_toInt (by omega)]; omega
theorem lq_lt {a b : Nat} (ha : a < 2 ^ 31) (hb : b < 2 ^ 31) : lN64 a < lN64 b ↔ a < b := by
  rw [i64_lt, lN64_toInt ha, lN64_toInt hb]; omega
theorem i32_nat {v : Int32} {w : Nat} (h0 : 0 ≤ v.toInt) (h1 : v.toInt ≤ w) (hw : w < 2 ^ 31) : ∃ u, u ≤ w ∧ v = nI u := ⟨v.toInt.toNat, by omega, Int32.toInt_inj.mp (by rw [nI_toInt (by omega)]; omega)⟩
theorem ng_add {a b : Nat} (h : b ≤ a) : -nI b + nI a = nI (a - b) := by
  rw [Int32.add_comm, ← Int32.sub_eq_add_neg]; exact pk_sub h
theorem bs_yes {s : ZS} {k q : Nat} (h : 0 < oV s (bT s k) q) (hb : bnd (oV s (bT s k) q) 4096000000) (hp : wth (bP s k) 0 100) : (bF s k).toInt64 + oV s (bT s k) q * (bP s k).toInt64 / 100 = bSize s k q := by
  unfold bSize
  rw [if_pos h, size_mul h hb hp]
theorem bs_no {s : ZS} {k q : Nat} (h : ¬ 0 < oV s (bT s k) q) : (bF s k).toInt64 + 0 = bSize s k q := by
  unfold bSize
  rw [if_neg h, Int64.add_zero]

/-! how large values are -/
theorem i64_add {x y : Int64} (h1 : -9223372036854775808 ≤ x.toInt + y.toInt) (h2 : x.toInt + y.toInt ≤ 9223372036854775807) : (x + y).toInt = x.toInt + y.toInt := by
  rw [Int64.toInt_add]; exact Int.bmod_eq_of_le (by omega) (by omega)
theorem i64_sub {x y : Int64} (h1 : -9223372036854775808 ≤ x.toInt - y.toInt) (h2 : x.toInt - y.toInt ≤ 9223372036854775807) : (x - y).toInt = x.toInt - y.toInt := by
  rw [Int64.toInt_sub]; exact Int.bmod_eq_of_le (by omega) (by omega)
theorem i64_mul {x y : Int64} (h1 : -9223372036854775808 ≤ x.toInt * y.toInt) (h2 : x.toInt * y.toInt ≤ 9223372036854775807) : (x * y).toInt = x.toInt * y.toInt := by
  rw [Int64.toInt_mul]; exact Int.bmod_eq_of_le (by omega) (by omega)
theorem lN64_toInt {n : Nat} (h : n < 2 ^ 31) : (lN64 n).toInt = n := by
  unfold lN64
  rw [Int32.toInt_toInt64, nI_toInt h]
theorem zfd_toInt (x : Int64) : (zfd x).toInt = x.toInt / 100 := by
  have h1 := x.le_toInt; have h2 := x.toInt_lt
  have a := Int.tdiv_eq_ediv (a := x.toInt) (b := 100); rw [show Int.sign 100 = 1 from rfl] at a
  unfold zfd
  by_cases h : x % 100 < 0
  · rw [if_pos h]
    have n := (zfd_neg x).mp h
    have e := zfd_div x
    have m := Int.mul_tdiv_add_tmod x.toInt 100
    rw [i64_sub (by rw [e, show (1 : Int64).toInt = 1 from rfl]; split at a <;> omega) (by rw [e, show (1 : Int64).toInt = 1 from rfl]; split at a <;> omega), e, show (1 : Int64).toInt = 1 from rfl]
    split at a <;> omega
  · rw [if_neg h, zfd_div]
    have n := fun z => h ((zfd_neg x).mpr z)
    have m := Int.mul_tdiv_add_tmod x.toInt 100
    by_cases q : x.toInt < 0
    · have z : x.toInt.tmod 100 = 0 := Decidable.not_not.mp (fun y => n ⟨q, y⟩)
      split at a <;> omega
    · split at a <;> omega
def vB : Nat → Int
  | 0 => 1000000
  | n + 1 => 4 * vB n
theorem vB_pos (n : Nat) : 1000000 ≤ vB n := by
  induction n with
  | zero => exact Int.le_refl _
  | succ n ih =>
    show 1000000 ≤ 4 * vB n
    omega
theorem vB_mono {m n : Nat} (h : m ≤ n) : vB m ≤ vB n := by
  induction n with
  | zero =>
    have : m = 0 := by omega
    subst this; exact Int.le_refl _
  | succ n ih =>
    by_cases q : m = n + 1
    · subst q; exact Int.le_refl _
    · have a := ih (by omega)
      have b := vB_pos n
      show vB m ≤ 4 * vB n
      omega
theorem vB_6 {n : Nat} (h : n ≤ 6) : vB n ≤ 4096000000 := Int.le_trans (vB_mono h) (by decide)
def bnd (x : Int64) (b : Int) : Prop := -b ≤ x.toInt ∧ x.toInt ≤ b
theorem syr_bnd {r : Nat → Int64} {q : Nat} {b : Int} (hq : q < 20) (hb : 0 ≤ b) (hb2 : b ≤ 4096000000) (h : ∀ z, z < 20 → bnd (r z) b) (k : Nat) (hk : k ≤ 4) : bnd (syr r q k) (k * b) := by
  induction k with
  | zero => exact ⟨by rw [show (syr r q 0).toInt = 0 from rfl]; simp, by rw [show (syr r q 0).toInt = 0 from rfl]; simp⟩
  | succ k ih =>
    have a := ih (by omega)
    have e : ((k + 1 : Nat) : Int) * b = k * b + b := by rw [Int.natCast_add, Int.add_mul]; simp
    have kb : (k : Int) * b ≤ 4 * 4096000000 := by
      have : k = 0 ∨ k = 1 ∨ k = 2 ∨ k = 3 := by omega
      rcases this with rfl | rfl | rfl | rfl <;> simp <;> omega
    show bnd (syr r q k + (if k ≤ q then r (q - k) else 0)) _
    rw [e]
    obtain ⟨a1, a2⟩ := a
    by_cases y : k ≤ q
    · rw [if_pos y]
      obtain ⟨c1, c2⟩ := h (q - k) (by omega)
      have t : (syr r q k + r (q - k)).toInt = (syr r q k).toInt + (r (q - k)).toInt := i64_add (by omega) (by omega)
      exact ⟨by rw [t]; omega, by rw [t]; omega⟩
    · rw [if_neg y, Int64.add_zero]
      exact ⟨by omega, by omega⟩
theorem sjn_bnd {k : Nat} {x y : Int64} {b : Int} (hb2 : b ≤ 4096000000) (hx : bnd x b) (hy : bnd y b) : bnd (sjn k x y) (4 * b) := by
  obtain ⟨x1, x2⟩ := hx; obtain ⟨y1, y2⟩ := hy
  unfold sjn
  by_cases h0 : k = 0
  · rw [if_pos h0]; have t : (x + y).toInt = x.toInt + y.toInt := i64_add (by omega) (by omega); exact ⟨by rw [t]; omega, by rw [t]; omega⟩
  · rw [if_neg h0]
    by_cases h1 : k = 1
    · rw [if_pos h1]; have t : (x - y).toInt = x.toInt - y.toInt := i64_sub (by omega) (by omega); exact ⟨by rw [t]; omega, by rw [t]; omega⟩
    · rw [if_neg h1]
      by_cases h2 : k = 2
      · rw [if_pos h2]; split <;> exact ⟨by omega, by omega⟩
      · rw [if_neg h2]; split <;> exact ⟨by omega, by omega⟩
theorem share_mul {x : Int64} {p : Nat} {b : Int} (hp : p ≤ 100) (hb : 0 ≤ b) (hb2 : b ≤ 4096000000) (hx : bnd x b) : (x * lN64 p).toInt = x.toInt * p ∧ -(100 * b) ≤ x.toInt * p ∧ x.toInt * p ≤ 100 * b := by
  obtain ⟨x1, x2⟩ := hx
  have l := lN64_toInt (n := p) (by omega)
  have p0 : (0 : Int) ≤ p := Int.natCast_nonneg _
  have p1 : (p : Int) ≤ 100 := by omega
  have u : x.toInt * p ≤ 100 * b := by
    have a : x.toInt * p ≤ b * p := Int.mul_le_mul_of_nonneg_right x2 p0
    have c : b * p ≤ b * 100 := Int.mul_le_mul_of_nonneg_left p1 hb
    omega
  have d : -(100 * b) ≤ x.toInt * p := by
    have a : -b * p ≤ x.toInt * p := Int.mul_le_mul_of_nonneg_right x1 p0
    have c : b * p ≤ b * 100 := Int.mul_le_mul_of_nonneg_left p1 hb
    rw [Int.neg_mul] at a
    omega
  refine ⟨?_, d, u⟩
  rw [i64_mul (by rw [l]; omega) (by rw [l]; omega), l]
theorem row_bnd {tl : Nat → Nat} {n N : Nat} {t : List Tok} (h : WL tl n t) (hn : n ≤ 6) (hg : gtk t ≤ N) {A V : Nat → Nat → Int64} (hA : ∀ a q, a < 6 → q < 20 → bnd (A a q) 1000000) (hV : ∀ k q, k < N → q < 20 → bnd (V k q) (vB (tl k))) : ∀ q, q < 20 → bnd (rowOf A V t q) (vB n) := by
  induction n generalizing t with
  | zero => exact absurd h id
  | succ n ih =>
    intro q hq
    have p1 := vB_pos n
    have p2 := vB_6 (show n ≤ 6 by omega)
    have e : vB (n + 1) = 4 * vB n := rfl
    rcases h with ⟨k, h1, rfl⟩ | ⟨k, h1, rfl⟩ | ⟨k, h1, h2, h3, rfl⟩ | ⟨k, a, b, h1, h2, h3, rfl⟩ | ⟨p, a, h1, h2, rfl⟩ | ⟨a, h1, rfl⟩
    · obtain ⟨x1, x2⟩ := hA k q h1 hq
      show bnd (A k q) _
      exact ⟨by omega, by omega⟩
    · show bnd (lN64 k) _
      have l := lN64_toInt (n := k) (by omega)
      exact ⟨by rw [l]; omega, by rw [l]; omega⟩
    · obtain ⟨x1, x2⟩ := hV k q (by simp [gtk] at hg; omega) hq
      have m := vB_mono h2
      show bnd (V k q) _
      exact ⟨by omega, by omega⟩
    · rw [gtk_app, gtk_app] at hg
      rw [row_join h2 h3 h1, e]
      exact sjn_bnd p2 (ih h2 (by omega) (by omega) q hq) (ih h3 (by omega) (by omega) q hq)
    · rw [gtk_app] at hg
      rw [row_share h2, e]
      have x := ih h2 (by omega) (by omega) q hq
      obtain ⟨m1, m2, m3⟩ := share_mul h1 (by omega) p2 x
      show bnd (zfd (rowOf A V a q * lN64 p)) _
      have z := zfd_toInt (rowOf A V a q * lN64 p)
      rw [m1] at z
      exact ⟨by rw [z]; omega, by rw [z]; omega⟩
    · rw [gtk_app] at hg
      rw [row_year h1, e]
      exact syr_bnd hq (by omega) p2 (fun z hz => ih h1 (by omega) (by omega) z hz) 4 (by decide)
theorem wth_bnd {x : Int32} (h : wth x (-1000000) 1000000) : bnd x.toInt64 1000000 := by
  have a := wth_iff.mp h
  rw [i32_le, i32_le, show (-1000000 : Int32).toInt = -1000000 from rfl, show (1000000 : Int32).toInt = 1000000 from rfl] at a
  unfold bnd
  rw [Int32.toInt_toInt64]; omega
theorem shd_in {d : Nat → Option (List Tok)} {q : Nat} {f : List Tok} (h : shd d q = some f) : ∃ p, d p = some f := by
  induction q with
  | zero => exact ⟨0, h⟩
  | succ q ih =>
    cases hd : d (q + 1) with
    | none =>
      have h' : (match d (q + 1) with | some f => some f | none => shd d q) = some f := h
      rw [hd] at h'; exact ih h'
    | some g =>
      have h' : (match d (q + 1) with | some f => some f | none => shd d q) = some f := h
      rw [hd] at h'; exact ⟨q + 1, by rw [hd]; exact h'⟩
theorem shd_ne {d : Nat → Option (List Tok)} (h0 : d 0 ≠ none) (q : Nat) : ∃ f, shd d q = some f := by
  induction q with
  | zero =>
    cases hd : d 0 with
    | none => exact absurd hd h0
    | some f => exact ⟨f, hd⟩
  | succ q ih =>
    cases hd : d (q + 1) with
    | none => obtain ⟨f, hf⟩ := ih; exact ⟨f, by show (match d (q + 1) with | some f => some f | none => shd d q) = _; rw [hd]; exact hf⟩
    | some g => exact ⟨g, by show (match d (q + 1) with | some f => some f | none => shd d q) = _; rw [hd]⟩
theorem val_bnd {s : ZS} (hw : WFs s) : ∀ n, n ≤ oN s → ∀ k q, k < n → q < 20 → bnd (sval (oAL s) (oD s) n k q) (vB (oL s k)) := by
  intro n
  induction n with
  | zero => intro _ k q hk; exact absurd hk (by omega)
  | succ n ih =>
    intro hn k q hk hq
    show bnd ((if k = n then (fun q => rowOf (oAL s) (sval (oAL s) (oD s) n) ((shd (oD s n) q).getD []) q) else sval (oAL s) (oD s) n k : Nat → Int64) q) _
    by_cases y : k = n
    · subst y
      rw [if_pos rfl]
      have c := hw.2.2.1.2.1 k (by omega)
      obtain ⟨f, hf⟩ := shd_ne c.2.2.1 q
      obtain ⟨p, hp⟩ := shd_in hf
      have e := c.2.2.2 p f hp
      show bnd (rowOf (oAL s) (sval (oAL s) (oD s) k) ((shd (oD s k) q).getD []) q) _
      rw [hf]
      exact row_bnd e.1 c.2.1 e.2 (fun a q ha hq => wth_bnd (hw.2.2.2.1 a q ha hq)) (fun i q hi hq => ih (by omega) i q hi hq) q hq
    · rw [if_neg y]; exact ih (by omega) k q (by omega) hq
theorem oV_bnd {s : ZS} (hw : WFs s) {t q : Nat} (ht : t < oN s) (hq : q < 20) : bnd (oV s t q) 4096000000 := by
  obtain ⟨a, b⟩ := val_bnd hw (oN s) (Nat.le_refl _) t q ht hq
  have c := vB_6 (hw.2.2.1.2.1 t ht).2.1
  exact ⟨Int.le_trans (by omega) a, Int.le_trans b c⟩

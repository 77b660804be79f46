def lmB (l : Nat → Int32) : Nat → Int32
  | 0 => -1
  | n + 1 => if l n = -1 then lmB l n else l n
theorem lmA_B (l : Nat → Int32) (q : Nat) : lmA l q = lmB l (q + 1) := by
  induction q with
  | zero =>
    show l 0 = if l 0 = -1 then -1 else l 0
    by_cases h : l 0 = -1
    · rw [if_pos h, h]
    · rw [if_neg h]
  | succ n ih =>
    show (if l (n + 1) = -1 then lmA l n else l (n + 1)) = if l (n + 1) = -1 then lmB l (n + 1) else l (n + 1)
    rw [ih]
def qI (k : Nat) : Int32 := nI k - 3
theorem qI_toInt {k : Nat} (h : k < 2 ^ 30) : (qI k).toInt = (k : Int) - 3 := pk_sub_toInt (b := 3) h (by decide)
theorem qI_nat {k : Nat} (h : 3 ≤ k) : qI k = nI (k - 3) := pk_sub (b := 3) h
theorem qI_s {k : Nat} (h : k < 2 ^ 29) : qI k + Int32.ofInt 1 = qI (k + 1) := by
  have e : Int32.ofInt 1 = 1 := by decide
  rw [e, ← Int32.toInt_inj, Int32.toInt_add, qI_toInt (by omega), qI_toInt (by omega), show (1 : Int32).toInt = 1 from rfl]
  rw [Int.bmod_eq_of_le (by omega) (by omega)]; omega
theorem qI_4 {k : Nat} (h : k < 2 ^ 29) : qI k + 4 = qI (k + 4) := by
  rw [← Int32.toInt_inj, Int32.toInt_add, qI_toInt (by omega), qI_toInt (by omega), show (4 : Int32).toInt = 4 from rfl]
  rw [Int.bmod_eq_of_le (by omega) (by omega)]; omega
theorem qI_in {k : Nat} (h : k < 2 ^ 29) : inN (qI k) 20 ↔ 3 ≤ k ∧ k < 23 := by
  rw [inN_iff, i32_le, i32_lt, qI_toInt (by omega), nI_toInt (by decide), show (0 : Int32).toInt = 0 from rfl]; omega
theorem qI_gt {k q : Nat} (h : k < 2 ^ 29) (hq : q < 2 ^ 29) : nI q < qI k ↔ q + 3 < k := by
  rw [i32_lt, qI_toInt (by omega), nI_toInt (by omega)]; omega
theorem qI_ge {k q : Nat} (h : k < 2 ^ 29) (hq : q < 2 ^ 29) : qI q ≤ qI k ↔ q ≤ k := by
  rw [i32_le, qI_toInt (by omega), qI_toInt (by omega)]; omega
def cuM (c : Nat → Int32) (q : Nat) : Nat → Nat
  | 0 => 0
  | i + 1 => max (cuM c q i) (cuF c q i 4)
theorem cuF_le (c : Nat → Int32) (q i n : Nat) : cuF c q i n ≤ n := by
  induction n with
  | zero => exact Nat.le_refl _
  | succ n ih =>
    show cuF c q i n + (if _ then 1 else 0) ≤ n + 1
    split <;> omega
theorem cuF_up {c : Nat → Int32} {q i n : Nat} (h : 3 ≤ q + i + n ∧ q + i + n < 23 ∧ ¬ c (q + i + n - 3) = 0) : cuF c q i n + 1 = cuF c q i (n + 1) := by
  show _ = cuF c q i n + _
  rw [if_pos h]
theorem cuF_st {c : Nat → Int32} {q i n : Nat} (h : ¬ (3 ≤ q + i + n ∧ q + i + n < 23 ∧ ¬ c (q + i + n - 3) = 0)) : cuF c q i n + 0 = cuF c q i (n + 1) := by
  show _ = cuF c q i n + _
  rw [if_neg h]
theorem cuM_4 {c : Nat → Int32} {q : Nat} : cuM c q 4 < 2 ↔ (cuF c q 0 4 < 2 ∧ cuF c q 1 4 < 2 ∧ cuF c q 2 4 < 2 ∧ cuF c q 3 4 < 2) := by
  show max (max (max (max 0 (cuF c q 0 4)) (cuF c q 1 4)) (cuF c q 2 4)) (cuF c q 3 4) < 2 ↔ _
  omega
theorem wth_1 {x y : Int32} (h : wth x 1 y) : 0 ≤ x := by
  have := (wth_iff.mp h).1
  rw [i32_le, show (1 : Int32).toInt = 1 from rfl] at this
  rw [i32_le, show (0 : Int32).toInt = 0 from rfl]; omega

/-! working formulas out: the stack of rows -/
/-- a row that is written from its end -/
def inP (f f0 R : Nat → Int64) (B c : Nat) : Prop := (∀ z, c ≤ z → z < 20 → f (B + z) = R z) ∧ ∀ j, (j < B + c ∨ B + 20 ≤ j) → f j = f0 j
theorem inP.rf {f0 R : Nat → Int64} {B : Nat} : inP f0 f0 R B 20 := ⟨fun z h1 h2 => absurd h1 (by omega), fun _ _ => rfl⟩
theorem inP.step {f f0 R : Nat → Int64} {B c : Nat} {v : Int64} (h : inP f f0 R B (c + 1)) (hc : c < 20) (hv : v = R c) : inP (up2 f (B + c) v) f0 R B c := by
  refine ⟨fun z h1 h2 => ?_, fun j hj => ?_⟩
  · by_cases q : z = c
    · subst q; rw [up2_s, hv]
    · rw [up2_n (by omega)]; exact h.1 z (by omega) h2
  · rw [up2_n (by omega)]; exact h.2 j (by omega)
theorem syr_congr {r r2 : Nat → Int64} {q b : Nat} (h : ∀ z, z ≤ q → r z = r2 z) : syr r q b = syr r2 q b := by
  induction b with
  | zero => rfl
  | succ b ih =>
    show syr r q b + (if b ≤ q then r (q - b) else 0) = syr r2 q b + (if b ≤ q then r2 (q - b) else 0)
    rw [ih, h (q - b) (by omega)]
theorem syr_stop {r : Nat → Int64} {q a : Nat} (h1 : q < a) (h2 : a ≤ 4) : syr r q 4 = syr r q a := by
  have st : ∀ b, q < b → syr r q (b + 1) = syr r q b := fun b hb => by
    show syr r q b + (if b ≤ q then r (q - b) else 0) = _
    rw [if_neg (by omega), Int64.add_zero]
  have : a = 4 ∨ a = 3 ∨ a = 2 ∨ a = 1 := by omega
  rcases this with rfl | rfl | rfl | rfl
  · rfl
  · exact st 3 h1
  · rw [st 3 (by omega), st 2 (by omega)]
  · rw [st 3 (by omega), st 2 (by omega), st 1 (by omega)]
theorem syr_s {r : Nat → Int64} {q b : Nat} (h : b ≤ q) : syr r q (b + 1) = syr r q b + r (q - b) := by
  show syr r q b + (if b ≤ q then r (q - b) else 0) = _
  rw [if_pos h]
theorem gI_neg {c : Nat} (h : c < 2 ^ 30) : gI c < 0 ↔ c = 0 := by
  rw [i32_lt, gI_toInt h, show (0 : Int32).toInt = 0 from rfl]; omega
theorem gI_dec (c : Nat) : nI c + Int32.ofInt (-1) = gI c := by
  have e : Int32.ofInt (-1) = -1 := by decide
  unfold gI
  rw [e, Int32.sub_eq_add_neg]

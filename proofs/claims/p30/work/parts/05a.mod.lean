/-! THE MODEL's object: its fields, its arrays -/
def mN (k : Nat) : Nat := if k = 1 then 120 else if k = 3 then 8 else if k = 4 then 8 else if k = 5 then 512 else if k = 6 then 512 else if k = 8 then 10 else if k = 9 then 200 else if k = 10 then 12800 else if k = 11 then 12800 else if k = 12 then 200 else if k = 13 then 200 else if k = 14 then 1000 else if k = 16 then 16 else if k = 20 then 120 else if k = 23 then 120 else if k = 24 then 120 else 6
def mT (k : Nat) : Nat := if k = 14 then 3 else if k = 24 then 4 else 0
/-- arrays of natural numbers, of ints, of longs -/
def mNat (k : Nat) : Bool := k == 3 || k == 4 || k == 5 || k == 6 || k == 8 || k == 9 || k == 10 || k == 11 || k == 14 || k == 16 || k == 18 || k == 19 || k == 27
def mInt (k : Nat) : Bool := k == 1 || k == 20 || k == 21 || k == 22 || k == 23 || k == 24 || k == 26 || k == 28
def mLng (k : Nat) : Bool := k == 12 || k == 13 || k == 29
def mC (ad : Nat → Nat) (ns : Nat → Nat) : List Value := [.int (nI (ns 0)), .ref (ad 1), .int (nI (ns 2)), .ref (ad 3), .ref (ad 4), .ref (ad 5), .ref (ad 6), .int (nI (ns 7)), .ref (ad 8), .ref (ad 9), .ref (ad 10), .ref (ad 11), .ref (ad 12), .ref (ad 13), .ref (ad 14), .int (nI (ns 15)), .ref (ad 16), .int (nI (ns 17)), .ref (ad 18), .ref (ad 19), .ref (ad 20), .ref (ad 21), .ref (ad 22), .ref (ad 23), .ref (ad 24), .int (nI (ns 25)), .ref (ad 26), .ref (ad 27), .ref (ad 28), .ref (ad 29)]
def upN (f : Nat → Nat) (k v : Nat) : Nat → Nat := fun j => if j = k then v else f j
theorem upN_s {f : Nat → Nat} {k v : Nat} : upN f k v k = v := if_pos rfl
theorem upN_n {f : Nat → Nat} {k v j : Nat} (h : j ≠ k) : upN f k v j = f j := if_neg h
def MR (G : zG) (h0 h : zH) (m : Nat) (ad : Nat → Nat) (ns : Nat → Nat) (na : Nat → Nat → Nat) (ia : Nat → Nat → Int32) (la : Nat → Nat → Int64) : Prop :=
  h m = some (.inr (8, mC ad ns)) ∧ (∀ k, mNat k = true → h (ad k) = some (.inl (gc G (mT k), mN k, .inl (fun j => nI (na k j))))) ∧ (∀ k, mInt k = true → h (ad k) = some (.inl (gc G (mT k), mN k, .inl (ia k)))) ∧ (∀ k, mLng k = true → h (ad k) = some (.inl (gc G 1, mN k, .inr (.inl (la k))))) ∧ (∀ i j, i < 30 → j < 30 → ad i = ad j → i = j) ∧ (∀ b, b ≠ m → (∀ k, k < 30 → b ≠ ad k) → h b = h0 b)
theorem mNat_lt {k : Nat} (h : mNat k = true) : k < 30 ∧ mInt k = false ∧ mLng k = false := by
  simp only [mNat, Bool.or_eq_true, beq_iff_eq] at h
  rcases h with ((((((((((((h | h) | h) | h) | h) | h) | h) | h) | h) | h) | h) | h) | h) <;> subst h <;> decide
theorem mInt_lt {k : Nat} (h : mInt k = true) : k < 30 ∧ mNat k = false ∧ mLng k = false := by
  simp only [mInt, Bool.or_eq_true, beq_iff_eq] at h
  rcases h with (((((((h | h) | h) | h) | h) | h) | h) | h) <;> subst h <;> decide
theorem mLng_lt {k : Nat} (h : mLng k = true) : k < 30 ∧ mNat k = false ∧ mInt k = false := by
  simp only [mLng, Bool.or_eq_true, beq_iff_eq] at h
  rcases h with ((h | h) | h) <;> subst h <;> decide
section
variable {G : zG} {h0 h h2 : zH} {m : Nat} {ad : Nat → Nat} {ns : Nat → Nat} {na : Nat → Nat → Nat} {ia : Nat → Nat → Int32} {la : Nat → Nat → Int64}
end
section
variable {G : zG} {h0 h h2 : zH} {m : Nat} {ad : Nat → Nat} {ns : Nat → Nat} {na : Nat → Nat → Nat} {ia : Nat → Nat → Int32} {la : Nat → Nat → Int64}
end

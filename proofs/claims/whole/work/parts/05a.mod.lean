/-! THE MODEL's object: its fields, its arrays -/
def mN (k : Nat) : Nat := if k = 1 then 120 else if k = 3 then 8 else if k = 4 then 8 else if k = 5 then 512 else if k = 6 then 512 else if k = 8 then 10 else if k = 9 then 200 else if k = 10 then 12800 else if k = 11 then 12800 else if k = 12 then 200 else if k = 13 then 200 else if k = 14 then 1000 else if k = 16 then 16 else if k = 20 then 120 else if k = 23 then 120 else if k = 24 then 120 else 6
def mT (k : Nat) : Nat := if k = 14 then 3 else if k = 24 then 4 else 0
/-- arrays of natural numbers, of ints, of longs -/
def mNat (k : Nat) : Bool := k == 3 || k == 4 || k == 5 || k == 6 || k == 8 || k == 9 || k == 10 || k == 11 || k == 14 || k == 16 || k == 18 || k == 19 || k == 27
def mInt (k : Nat) : Bool := k == 1 || k == 20 || k == 21 || k == 22 || k == 23 || k == 24 || k == 26 || k == 28
def mLng (k : Nat) : Bool := k == 12 || k == 13 || k == 29
def mC (ad : Nat → Nat) (ns : Nat → Nat) : List Value := [.int (nI (ns 0)), .ref (ad 1), .int (nI (ns 2)), .ref (ad 3), .ref (ad 4), .ref (ad 5), .ref (ad 6), .int (nI (ns 7)), .ref (ad 8), .ref (ad 9), .ref (ad 10), .ref (ad 11), .ref (ad 12), .ref (ad 13), .ref (ad 14), .int (nI (ns 15)), .ref (ad 16), .int (nI (ns 17)), .ref (ad 18), .ref (ad 19), .ref (ad 20), .ref (ad 21), .ref (ad 22), .ref (ad 23), .ref (ad 24), .int (nI (ns 25)), .ref (ad 26), .ref (ad 27), .ref (ad 28), .ref (ad 29)]
def upN (f : Nat → Nat) (k v : Nat) : Nat → Nat := fun j => if j = k then v else f j
theorem upN_s {f : Nat → Nat} {k v : Nat} : upN f k v k = v := if_pos rfl
theorem upN_n {f : Nat → Nat} {k v j : Nat} (h : j ≠ k) : upN f k v j = f j := if_neg h
def MR (G : zG) (h0 h : zH) (m : Nat) (ad : Nat → Nat) (ns : Nat → Nat) (na : Nat → Nat → Nat) (ia : Nat → Nat → Int32) (la : Nat → Nat → Int64) : Prop :=
  h m = some (.inr (8, mC ad ns)) ∧ (∀ k, mNat k = true → h (ad k) = some (.inl (gc G (mT k), mN k, .inl (fun j => nI (na k j))))) ∧ (∀ k, mInt k = true → h (ad k) = some (.inl (gc G (mT k), mN k, .inl (ia k)))) ∧ (∀ k, mLng k = true → h (ad k) = some (.inl (gc G 1, mN k, .inr (.inl (la k))))) ∧ (∀ i j, i < 30 → j < 30 → ad i = ad j → i = j) ∧ (∀ b, b ≠ m → (∀ k, k < 30 → b ≠ ad k) → h b = h0 b)
theorem mNat_lt {k : Nat} (h : mNat k = true) : k < 30 ∧ mInt k = false ∧ mLng k = false := by
  simp only [mNat, Bool.or_eq_true, beq_iff_eq] at h
  rcases h with ((((((((((((h | h) | h) | h) | h) | h) | h) | h) | h) | h) | h) | h) | h) <;> subst h <;> decide
theorem mInt_lt {k : Nat} (h : mInt k = true) : k < 30 ∧ mNat k = false ∧ mLng k = false := by
  simp only [mInt, Bool.or_eq_true, beq_iff_eq] at h
  rcases h with (((((((h | h) | h) | h) | h) | h) | h) | h) <;> subst h <;> decide
theorem mLng_lt {k : Nat} (h : mLng k = true) : k < 30 ∧ mNat k = false ∧ mInt k = false := by
  simp only [mLng, Bool.or_eq_true, beq_iff_eq] at h
  rcases h with ((h | h) | h) <;> subst h <;> decide
section
variable {G : zG} {h0 h h2 : zH} {m : Nat} {ad : Nat → Nat} {ns : Nat → Nat} {na : Nat → Nat → Nat} {ia : Nat → Nat → Int32} {la : Nat → Nat → Int64}
theorem MR.neN (R : MR G h0 h m ad ns na ia la) {k : Nat} (hk : mNat k = true) : ad k ≠ m := zne_oi R.1 (R.2.1 k hk)
theorem MR.neI (R : MR G h0 h m ad ns na ia la) {k : Nat} (hk : mInt k = true) : ad k ≠ m := zne_oi R.1 (R.2.2.1 k hk)
theorem MR.neL (R : MR G h0 h m ad ns na ia la) {k : Nat} (hk : mLng k = true) : ad k ≠ m := zne_ol R.1 (R.2.2.2.1 k hk)
theorem MR.putS (R : MR G h0 h m ad ns na ia la) (k v : Nat) {fs : List Value} (hf : fs = mC ad (upN ns k v)) (eh : h2 = zup h m (.inr (8, fs))) : MR G h0 h2 m ad (upN ns k v) na ia la := by
  subst hf
  refine ⟨by rw [eh, zup_self], fun j hj => ?_, fun j hj => ?_, fun j hj => ?_, R.2.2.2.2.1, fun b hb hk => ?_⟩
  · rw [eh, zup_ne _ _ (R.neN hj)]; exact R.2.1 j hj
  · rw [eh, zup_ne _ _ (R.neI hj)]; exact R.2.2.1 j hj
  · rw [eh, zup_ne _ _ (R.neL hj)]; exact R.2.2.2.1 j hj
  · rw [eh, zup_ne _ _ hb]; exact R.2.2.2.2.2 b hb hk
theorem MR.putN' (R : MR G h0 h m ad ns na ia la) {k : Nat} (hk : mNat k = true) {f : Nat → Int32} {g : Nat → Nat} (hf : f = fun j => nI (g j)) (eh : h2 = zup h (ad k) (.inl (gc G (mT k), mN k, .inl f))) : MR G h0 h2 m ad ns (up2 na k g) ia la := by
  have hk2 := mNat_lt hk
  refine ⟨by rw [eh, zup_ne _ _ (R.neN hk).symm]; exact R.1, fun j hj => ?_, fun j hj => ?_, fun j hj => ?_, R.2.2.2.2.1, fun b hb hq => ?_⟩
  · by_cases q : j = k
    · subst q; rw [eh, zup_self, hf, up2_s]
    · rw [eh, zup_ne _ _ (fun z => q (R.2.2.2.2.1 j k (mNat_lt hj).1 hk2.1 z)), up2_n q]; exact R.2.1 j hj
  · rw [eh, zup_ne _ _ (fun z => by have := R.2.2.2.2.1 j k (mInt_lt hj).1 hk2.1 z; subst this; rw [hj] at hk2; exact absurd hk2.2.1 (by decide))]; exact R.2.2.1 j hj
  · rw [eh, zup_ne _ _ (fun z => by have := R.2.2.2.2.1 j k (mLng_lt hj).1 hk2.1 z; subst this; rw [hj] at hk2; exact absurd hk2.2.2 (by decide))]; exact R.2.2.2.1 j hj
  · rw [eh, zup_ne _ _ (hq k hk2.1)]; exact R.2.2.2.2.2 b hb hq
theorem MR.putN (R : MR G h0 h m ad ns na ia la) {k : Nat} (hk : mNat k = true) {g : Nat → Nat} {i v : Nat} (hi : i < 2 ^ 31) (eh : h2 = zup h (ad k) (.inl (gc G (mT k), mN k, .inl (upd (fun j => nI (g j)) (nI i).toNatClampNeg (nI v))))) : MR G h0 h2 m ad ns (up2 na k (upN g i v)) ia la := R.putN' hk (by
  funext j
  rw [nI_clamp hi]
  by_cases q : j = i
  · subst q; rw [pk_us, upN_s]
  · rw [pk_un q, upN_n q]) eh
theorem MR.putI (R : MR G h0 h m ad ns na ia la) {k : Nat} (hk : mInt k = true) {f : Nat → Int32} (eh : h2 = zup h (ad k) (.inl (gc G (mT k), mN k, .inl f))) : MR G h0 h2 m ad ns na (up2 ia k f) la := by
  have hk2 := mInt_lt hk
  refine ⟨by rw [eh, zup_ne _ _ (R.neI hk).symm]; exact R.1, fun j hj => ?_, fun j hj => ?_, fun j hj => ?_, R.2.2.2.2.1, fun b hb hq => ?_⟩
  · rw [eh, zup_ne _ _ (fun z => by have := R.2.2.2.2.1 j k (mNat_lt hj).1 hk2.1 z; subst this; rw [hj] at hk2; exact absurd hk2.2.1 (by decide))]; exact R.2.1 j hj
  · by_cases q : j = k
    · subst q; rw [eh, zup_self, up2_s]
    · rw [eh, zup_ne _ _ (fun z => q (R.2.2.2.2.1 j k (mInt_lt hj).1 hk2.1 z)), up2_n q]; exact R.2.2.1 j hj
  · rw [eh, zup_ne _ _ (fun z => by have := R.2.2.2.2.1 j k (mLng_lt hj).1 hk2.1 z; subst this; rw [hj] at hk2; exact absurd hk2.2.2 (by decide))]; exact R.2.2.2.1 j hj
  · rw [eh, zup_ne _ _ (hq k hk2.1)]; exact R.2.2.2.2.2 b hb hq
theorem MR.putL (R : MR G h0 h m ad ns na ia la) {k : Nat} (hk : mLng k = true) {f : Nat → Int64} (eh : h2 = zup h (ad k) (.inl (gc G 1, mN k, .inr (.inl f)))) : MR G h0 h2 m ad ns na ia (up2 la k f) := by
  have hk2 := mLng_lt hk
  refine ⟨by rw [eh, zup_ne _ _ (R.neL hk).symm]; exact R.1, fun j hj => ?_, fun j hj => ?_, fun j hj => ?_, R.2.2.2.2.1, fun b hb hq => ?_⟩
  · rw [eh, zup_ne _ _ (fun z => by have := R.2.2.2.2.1 j k (mNat_lt hj).1 hk2.1 z; subst this; rw [hj] at hk2; exact absurd hk2.2.1 (by decide))]; exact R.2.1 j hj
  · rw [eh, zup_ne _ _ (fun z => by have := R.2.2.2.2.1 j k (mInt_lt hj).1 hk2.1 z; subst this; rw [hj] at hk2; exact absurd hk2.2.2 (by decide))]; exact R.2.2.1 j hj
  · by_cases q : j = k
    · subst q; rw [eh, zup_self, up2_s]
    · rw [eh, zup_ne _ _ (fun z => q (R.2.2.2.2.1 j k (mLng_lt hj).1 hk2.1 z)), up2_n q]; exact R.2.2.2.1 j hj
  · rw [eh, zup_ne _ _ (hq k hk2.1)]; exact R.2.2.2.2.2 b hb hq
end
section
variable {G : zG} {h0 h h2 : zH} {m : Nat} {ad : Nat → Nat} {ns : Nat → Nat} {na : Nat → Nat → Nat} {ia : Nat → Nat → Int32} {la : Nat → Nat → Int64}
theorem MR.putI2 (R : MR G h0 h m ad ns na ia la) {k : Nat} (hk : mInt k = true) {g : Nat → Int32} {i : Nat} {v : Int32} (hi : i < 2 ^ 31) (eh : h2 = zup h (ad k) (.inl (gc G (mT k), mN k, .inl (upd g (nI i).toNatClampNeg v)))) : MR G h0 h2 m ad ns na (up2 ia k (up2 g i v)) la := R.putI hk (by
  rw [eh, nI_clamp hi]; rfl)
theorem MR.putL2 (R : MR G h0 h m ad ns na ia la) {k : Nat} (hk : mLng k = true) {g : Nat → Int64} {i : Nat} {v : Int64} (hi : i < 2 ^ 31) (eh : h2 = zup h (ad k) (.inl (gc G 1, mN k, .inr (.inl (vp_updL g (nI i).toNatClampNeg v))))) : MR G h0 h2 m ad ns na ia (up2 la k (up2 g i v)) := R.putL hk (by
  rw [eh, nI_clamp hi]; rfl)
end
theorem wth_19 (q : Int32) : wth q 0 19 ↔ inN q 20 := by
  rw [wth_iff, inN_iff]
  constructor
  · intro h; exact ⟨h.1, i32_lt.mpr (by have := i32_le.mp h.2; rw [nI_toInt (by decide)]; rw [show (19 : Int32).toInt = 19 from rfl] at this; omega)⟩
  · intro h; exact ⟨h.1, i32_le.mpr (by have := i32_lt.mp h.2; rw [nI_toInt (by decide)] at this; rw [show (19 : Int32).toInt = 19 from rfl]; omega)⟩
theorem wth_5 (q : Int32) : wth q 0 5 ↔ inN q 6 := by
  rw [wth_iff, inN_iff]
  constructor
  · intro h; exact ⟨h.1, i32_lt.mpr (by have := i32_le.mp h.2; rw [nI_toInt (by decide)]; rw [show (5 : Int32).toInt = 5 from rfl] at this; omega)⟩
  · intro h; exact ⟨h.1, i32_le.mpr (by have := i32_lt.mp h.2; rw [nI_toInt (by decide)] at this; rw [show (5 : Int32).toInt = 5 from rfl]; omega)⟩
theorem wth_m1 (x : Int32) {n : Nat} (hn : n < 2 ^ 30) : wth x 0 (nI n - 1) ↔ inN x n := by
  have e : (nI n - 1).toInt = (n : Int) - 1 := pk_sub_toInt (b := 1) hn (by decide)
  rw [wth_iff, inN_iff]
  constructor
  · intro h; exact ⟨h.1, i32_lt.mpr (by have := i32_le.mp h.2; rw [nI_toInt (by omega)]; rw [e] at this; omega)⟩
  · intro h; exact ⟨h.1, i32_le.mpr (by have := i32_lt.mp h.2; rw [nI_toInt (by omega)] at this; rw [e]; omega)⟩

/-! small facts that the walks use -/
def zb (P : Prop) [Decidable P] : Int32 := if P then 1 else 0
theorem zb_t {P : Prop} [Decidable P] (h : P) : zb P = 1 := if_pos h
theorem zb_f {P : Prop} [Decidable P] (h : ¬ P) : zb P = 0 := if_neg h
theorem zb_or (P : Prop) [Decidable P] : zb P = 0 ∨ zb P = 1 := by
  by_cases h : P
  · exact Or.inr (zb_t h)
  · exact Or.inl (zb_f h)
theorem zb_nar (P : Prop) [Decidable P] : narrow .boolean (.int (zb P)) = .int (zb P) := by
  rcases zb_or P with h | h <;> rw [h] <;> rfl
theorem zb_congr {P Q : Prop} [Decidable P] [Decidable Q] (h : P ↔ Q) : zb P = zb Q := by
  by_cases q : Q
  · rw [zb_t q, zb_t (h.mpr q)]
  · rw [zb_f q, zb_f (fun p => q (h.mp p))]
theorem zne_sh {h : zH} {a b : Nat} {e1 e2 : va_E} (ha : h a = some e1) (hb : h b = some e2) (hn : e1 ≠ e2) : b ≠ a := fun q => by
  rw [q] at hb
  exact hn (Option.some.inj (ha.symm.trans hb))
theorem zne_oo {h : zH} {a b ci cj : Nat} {fs gs : List Value} (ha : h a = some (.inr (ci, fs))) (hb : h b = some (.inr (cj, gs))) (hn : ci ≠ cj) : b ≠ a := zne_sh ha hb (fun q => hn (by cases q; rfl))
theorem zne_oi {h : zH} {a b ci : Nat} {fs : List Value} {x : ClassId} {n : Nat} {f : Nat → Int32} (ha : h a = some (.inr (ci, fs))) (hb : h b = some (.inl (x, n, .inl f))) : b ≠ a := zne_sh ha hb (fun q => by cases q)
theorem zne_io {h : zH} {a b ci : Nat} {fs : List Value} {x : ClassId} {n : Nat} {f : Nat → Int32} (hb : h a = some (.inl (x, n, .inl f))) (ha : h b = some (.inr (ci, fs))) : b ≠ a := zne_sh hb ha (fun q => by cases q)
theorem zne_ol {h : zH} {a b ci : Nat} {fs : List Value} {x : ClassId} {n : Nat} {f : Nat → Int64} (ha : h a = some (.inr (ci, fs))) (hb : h b = some (.inl (x, n, .inr (.inl f)))) : b ≠ a := zne_sh ha hb (fun q => by cases q)
theorem zne_lo {h : zH} {a b ci : Nat} {fs : List Value} {x : ClassId} {n : Nat} {f : Nat → Int64} (hb : h a = some (.inl (x, n, .inr (.inl f)))) (ha : h b = some (.inr (ci, fs))) : b ≠ a := zne_sh hb ha (fun q => by cases q)
theorem zne_oq {h : zH} {a b ci : Nat} {fs : List Value} {x : ClassId} {n : Nat} {f : Nat → Option Nat} (ha : h a = some (.inr (ci, fs))) (hb : h b = some (.inl (x, n, .inr (.inr (.inr (.inr f)))))) : b ≠ a := zne_sh ha hb (fun q => by cases q)
theorem zne_qo {h : zH} {a b ci : Nat} {fs : List Value} {x : ClassId} {n : Nat} {f : Nat → Option Nat} (hb : h a = some (.inl (x, n, .inr (.inr (.inr (.inr f)))))) (ha : h b = some (.inr (ci, fs))) : b ≠ a := zne_sh hb ha (fun q => by cases q)
theorem zne_il {h : zH} {a b : Nat} {x y : ClassId} {n k : Nat} {f : Nat → Int32} {g : Nat → Int64} (ha : h a = some (.inl (x, n, .inl f))) (hb : h b = some (.inl (y, k, .inr (.inl g)))) : b ≠ a := zne_sh ha hb (fun q => by injection q with q; injection q with _ q; injection q with _ q; cases q)
theorem zne_li {h : zH} {a b : Nat} {x y : ClassId} {n k : Nat} {f : Nat → Int32} {g : Nat → Int64} (hb : h a = some (.inl (y, k, .inr (.inl g)))) (ha : h b = some (.inl (x, n, .inl f))) : b ≠ a := fun q => zne_il ha hb q.symm
theorem zne_iq {h : zH} {a b : Nat} {x y : ClassId} {n k : Nat} {f : Nat → Int32} {g : Nat → Option Nat} (ha : h a = some (.inl (x, n, .inl f))) (hb : h b = some (.inl (y, k, .inr (.inr (.inr (.inr g)))))) : b ≠ a := zne_sh ha hb (fun q => by injection q with q; injection q with _ q; injection q with _ q; cases q)
theorem zne_qi {h : zH} {a b : Nat} {x y : ClassId} {n k : Nat} {f : Nat → Int32} {g : Nat → Option Nat} (hb : h a = some (.inl (y, k, .inr (.inr (.inr (.inr g)))))) (ha : h b = some (.inl (x, n, .inl f))) : b ≠ a := fun q => zne_iq ha hb q.symm
theorem zne_lq {h : zH} {a b : Nat} {x y : ClassId} {n k : Nat} {f : Nat → Int64} {g : Nat → Option Nat} (ha : h a = some (.inl (x, n, .inr (.inl f)))) (hb : h b = some (.inl (y, k, .inr (.inr (.inr (.inr g)))))) : b ≠ a := zne_sh ha hb (fun q => by injection q with q; injection q with _ q; injection q with _ q; injection q with q; cases q)
theorem zne_ql {h : zH} {a b : Nat} {x y : ClassId} {n k : Nat} {f : Nat → Int64} {g : Nat → Option Nat} (hb : h a = some (.inl (y, k, .inr (.inr (.inr (.inr g)))))) (ha : h b = some (.inl (x, n, .inr (.inl f)))) : b ≠ a := fun q => zne_lq ha hb q.symm
theorem zne_new {h : zH} {q b : Nat} {e : va_E} (hn : h q = none) (hb : h b = some e) : b ≠ q := fun z => by rw [z, hn] at hb; cases hb
theorem lgc_le (x y : Int64) : lg_cmp x y ≤ 0 ↔ x ≤ y := lg_cmp_le x y
theorem lgc_le_f (x y : Int64) : (¬ lg_cmp x y ≤ 0) ↔ ¬ x ≤ y := not_congr (lg_cmp_le x y)
theorem lgc_lt (x y : Int64) : lg_cmp x y < 0 ↔ x < y := lg_cmp_lt x y
theorem lgc_lt_f (x y : Int64) : (¬ lg_cmp x y < 0) ↔ ¬ x < y := not_congr (lg_cmp_lt x y)
theorem lgc_ge (x y : Int64) : 0 ≤ lg_cmp x y ↔ y ≤ x := lg_cmp_ge x y
theorem lgc_ge_f (x y : Int64) : (¬ 0 ≤ lg_cmp x y) ↔ ¬ y ≤ x := not_congr (lg_cmp_ge x y)
theorem lgc_gt (x y : Int64) : 0 < lg_cmp x y ↔ y < x := lg_cmp_gt x y
theorem lgc_gt_f (x y : Int64) : (¬ 0 < lg_cmp x y) ↔ ¬ y < x := not_congr (lg_cmp_gt x y)
theorem lgc_eq (x y : Int64) : lg_cmp x y = 0 ↔ x = y := lg_cmp_eq x y
theorem lgc_eq_f (x y : Int64) : (¬ lg_cmp x y = 0) ↔ ¬ x = y := not_congr (lg_cmp_eq x y)
theorem lgc_ne (x y : Int64) : (¬ lg_cmp x y = 0) ↔ ¬ x = y := not_congr (lg_cmp_eq x y)
theorem lgc_ne_f (x y : Int64) : lg_cmp x y = 0 ↔ x = y := lg_cmp_eq x y
theorem i32_lt {x y : Int32} : x < y ↔ x.toInt < y.toInt := Int32.lt_iff_toInt_lt
theorem i32_le {x y : Int32} : x ≤ y ↔ x.toInt ≤ y.toInt := Int32.le_iff_toInt_le
theorem i64_lt {x y : Int64} : x < y ↔ x.toInt < y.toInt := Int64.lt_iff_toInt_lt
theorem i64_le {x y : Int64} : x ≤ y ↔ x.toInt ≤ y.toInt := Int64.le_iff_toInt_le
/-- a whole number in a range is a natural one -/
theorem i32_in {x : Int32} {n : Nat} (hn : n < 2 ^ 31) (h0 : 0 ≤ x) (h1 : x < nI n) : ∃ j, j < n ∧ x = nI j := by
  refine vp_in_of (vp_in_iff.mpr ⟨?_, ?_⟩) hn
  · exact i32_le.mp h0
  · have := i32_lt.mp h1
    rw [nI_toInt hn] at this
    exact this
theorem i32_inle {x : Int32} {n : Nat} (hn : n + 1 < 2 ^ 31) (h0 : 0 ≤ x) (h1 : x ≤ nI n) : ∃ j, j ≤ n ∧ x = nI j := by
  obtain ⟨j, hj, e⟩ := i32_in (n := n + 1) hn h0 (by rw [i32_lt]; rw [i32_le] at h1; rw [nI_toInt (by omega)] at *; omega)
  exact ⟨j, by omega, e⟩

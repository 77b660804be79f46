/-! the codes of the calls at the law's numbers -/
section
variable {s : ZS} {k q t u n : Nat} {v : Int32}
theorem in_n (h : k < n) (hn : n < 2 ^ 31) : inN (nI k) n := (inN_nI (by omega) hn).mpr h
theorem in_nn (h : n ≤ k) (hk : k < 2 ^ 31) (hn : n < 2 ^ 31) : ¬ inN (nI k) n := fun z => absurd ((inN_nI hk hn).mp z) (by omega)
theorem c_amt (hk : k < 6) (hq : q < 20) (hv : wth v (-1000000) 1000000) : kAmount (nI k) (nI q) v = 0 := (if_pos ⟨in_n hk (by decide), in_n hq (by decide)⟩).trans (if_pos hv)
theorem c_acc (hk : k < 6) (h : (oS s).length ≠ 8) : kAccount s (nI k) = 0 := (if_pos (in_n hk (by decide))).trans (if_neg h)
theorem c_num (hk : k ≤ 1000000) (h : (oS s).length ≠ 8) : kNumber s (nI k) = 0 := (if_pos (wth_n hk (by decide) (by decide))).trans (if_neg h)
theorem c_trm (hN : oN s ≤ 6) (ht : t < oN s) (h : (oS s).length ≠ 8) (h6 : oL s t ≠ 6) : kTerm s (nI t) = 0 := by
  unfold kTerm
  rw [if_pos (in_n ht (by omega)), cl_nI (show t < 2 ^ 31 by omega)]
  exact if_neg (fun z => z.elim h h6)
theorem c_trm2 (hN : oN s ≤ 6) (ht : t < oN s) (h : (oS s).length = 8 ∨ oL s t = 6) : kTerm s (nI t) = 2 := by
  unfold kTerm
  rw [if_pos (in_n ht (by omega)), cl_nI (show t < 2 ^ 31 by omega)]
  exact if_pos h
theorem c_trm1 (h : oN s = 0) : kTerm s 0 = 1 := if_neg (by rw [h]; decide)
theorem c_jn (hu : u < 4) (h1 : 2 ≤ (oS s).length) (h2 : (top2 s).2 ≠ 6) (h3 : (top1 s).2 ≠ 6) : kJoin s (nI u) = 0 := (if_pos (wth_n (n := 3) (by omega) (by decide) (by decide))).trans (if_neg (fun z => by rcases z with z | z | z; exact absurd z (by omega); exact h2 z; exact h3 z))
theorem c_jn2 (hu : u < 4) (h : (oS s).length < 2 ∨ (top2 s).2 = 6 ∨ (top1 s).2 = 6) : kJoin s (nI u) = 2 := (if_pos (wth_n (n := 3) (by omega) (by decide) (by decide))).trans (if_pos h)
theorem c_shr (hu : u ≤ 100) (h1 : (oS s).length ≠ 0) (h3 : (top1 s).2 ≠ 6) : kShare s (nI u) = 0 := (if_pos (wth_n (n := 100) hu (by decide) (by decide))).trans (if_neg (fun z => z.elim h1 h3))
theorem c_shr2 (h : (oS s).length = 0 ∨ (top1 s).2 = 6) : kShare s 50 = 2 := (if_pos (by decide)).trans (if_pos h)
theorem c_yr (h1 : (oS s).length ≠ 0) (h3 : (top1 s).2 ≠ 6) : kYear s = 0 := if_neg (fun z => z.elim h1 h3)
theorem c_yr1 (h : (oS s).length = 0 ∨ (top1 s).2 = 6) : kYear s = 1 := if_pos h
theorem c_def (h1 : (oS s).length ≠ 0) (h : oN s < 6) : kDefine s = 0 := if_neg (fun z => z.elim h1 (by omega))
theorem c_def1 (h : (oS s).length = 0) : kDefine s = 1 := if_pos (Or.inl h)
theorem c_am1 (hN : oN s = 0) : kAmend s (nI t) v = 1 := if_neg (fun z => by have := (inN_iff.mp z.1); rw [hN] at this; exact absurd (Int32.lt_of_le_of_lt this.1 this.2) (by decide))
theorem c_am0 (hN : oN s ≤ 6) (ht : t < oN s) (hq : q < 20) (h1 : (oS s).length ≠ 0) (h2 : (top1 s).2 ≤ oL s t) (h3 : gtk (top1 s).1 ≤ t) : kAmend s (nI t) (nI q) = 0 := by
  unfold kAmend
  rw [if_pos ⟨in_n ht (by omega), in_n hq (by decide)⟩, cl_nI (show t < 2 ^ 31 by omega)]
  exact if_neg (fun z => by rcases z with z | z | z; exact h1 z; exact absurd z (by omega); exact absurd z (by omega))
theorem c_am2 (hN : oN s ≤ 6) (ht : t < oN s) (hq : q < 20) (h : (oS s).length = 0 ∨ oL s t < (top1 s).2 ∨ t < gtk (top1 s).1) : kAmend s (nI t) (nI q) = 2 := by
  unfold kAmend
  rw [if_pos ⟨in_n ht (by omega), in_n hq (by decide)⟩, cl_nI (show t < 2 ^ 31 by omega)]
  exact if_pos h
theorem c_tst (hN : oN s ≤ 6) (ht : t < oN s) (hu : u < oN s) (h : rN s ≠ 6) : kTest s (nI t) (nI u) = 0 := (if_pos ⟨in_n ht (by omega), in_n hu (by omega)⟩).trans (if_neg h)
theorem c_lim (hN : rN s ≤ 2) (hk : k < rN s) (hq : q < 20) (hv : wth v 0 10000) : kLimit s (nI k) (nI q) v = 0 := (if_pos ⟨in_n hk (by omega), in_n hq (by decide)⟩).trans (if_pos hv)
theorem c_wak {a : Int32} (hN : rN s ≤ 2) (hk : k < rN s) (ha : a = -1 ∨ inN a 6) (hv : wth v (-1000000) 1000000) : kWake s (nI k) a v = 0 := (if_pos ⟨in_n hk (by omega), ha⟩).trans (if_pos hv)
theorem c_wai (hN : rN s ≤ 2) (hk : k < rN s) (hq : q < 20) : kIsRQ s (nI k) (nI q) = 0 := if_pos ⟨in_n hk (by omega), in_n hq (by decide)⟩
theorem c_cu0 (hN : rN s ≤ 2) (hk : k < rN s) (hq : q < 20) (hu1 : 1 ≤ u) (hu : u ≤ 1000000) (h0 : rC s k q = 0) (h : ∀ i, i < 4 → cuF (rC s k) q i 4 < 2) : kCure s (nI k) (nI q) (nI u) = 0 := by
  unfold kCure
  rw [if_pos ⟨in_n hk (by omega), in_n hq (by decide)⟩, if_pos (wth_n1 hu1 hu (by decide) (by decide)), cl_nI (show k < 2 ^ 31 by omega), cl_nI (show q < 2 ^ 31 by omega)]
  exact if_neg (fun z => z.elim (fun y => y h0) (fun y => y ⟨h 0 (by decide), h 1 (by decide), h 2 (by decide), h 3 (by decide)⟩))
theorem c_cu3 (hN : rN s ≤ 2) (hk : k < rN s) (hq : q < 20) (hu1 : 1 ≤ u) (hu : u ≤ 1000000) (h : rC s k q ≠ 0 ∨ ∃ i, i < 4 ∧ 2 ≤ cuF (rC s k) q i 4) : kCure s (nI k) (nI q) (nI u) = 3 := by
  unfold kCure
  rw [if_pos ⟨in_n hk (by omega), in_n hq (by decide)⟩, if_pos (wth_n1 hu1 hu (by decide) (by decide)), cl_nI (show k < 2 ^ 31 by omega), cl_nI (show q < 2 ^ 31 by omega)]
  refine if_pos (h.imp id (fun ⟨i, hi, h2⟩ z => ?_))
  have : i = 0 ∨ i = 1 ∨ i = 2 ∨ i = 3 := by omega
  rcases this with rfl | rfl | rfl | rfl
  · exact absurd z.1 (by omega)
  · exact absurd z.2.1 (by omega)
  · exact absurd z.2.2.1 (by omega)
  · exact absurd z.2.2.2 (by omega)
theorem c_bas {f p : Int32} (hN : oN s ≤ 6) (ht : t < oN s) (hf : wth f 0 1000000) (hp : wth p 0 100) (h : bN s ≠ 6) : kBasket s f (nI t) p = 0 := (if_pos ⟨hf, hp⟩).trans ((if_pos (in_n ht (by omega))).trans (if_neg h))
theorem c_siz (hN : bN s ≤ 2) (hk : k < bN s) (hq : q < 20) : kIsBQ s (nI k) (nI q) = 0 := if_pos ⟨in_n hk (by omega), in_n hq (by decide)⟩
theorem c_us0 (hN : bN s ≤ 2) (hk : k < bN s) (hq : q < 20) (hu1 : 1 ≤ u) (hu : u ≤ 1000000) (h : ¬ bSize s k q < bU s k + lN64 u) : kUse s (nI k) (nI q) (nI u) = 0 := by
  unfold kUse
  rw [if_pos ⟨in_n hk (by omega), in_n hq (by decide)⟩, if_pos (wth_n1 hu1 hu (by decide) (by decide)), cl_nI (show k < 2 ^ 31 by omega), cl_nI (show q < 2 ^ 31 by omega)]
  exact if_neg h
theorem c_us3 (hN : bN s ≤ 2) (hk : k < bN s) (hq : q < 20) (hu1 : 1 ≤ u) (hu : u ≤ 1000000) (h : bSize s k q < bU s k + lN64 u) : kUse s (nI k) (nI q) (nI u) = 3 := by
  unfold kUse
  rw [if_pos ⟨in_n hk (by omega), in_n hq (by decide)⟩, if_pos (wth_n1 hu1 hu (by decide) (by decide)), cl_nI (show k < 2 ^ 31 by omega), cl_nI (show q < 2 ^ 31 by omega)]
  exact if_pos h
theorem c_rf0 (hN : bN s ≤ 2) (hk : k < bN s) (hu1 : 1 ≤ u) (hu : u ≤ 1000000) (h : ¬ bU s k < lN64 u) : kRefill s (nI k) (nI u) = 0 := by
  unfold kRefill
  rw [if_pos (in_n hk (by omega)), if_pos (wth_n1 hu1 hu (by decide) (by decide)), cl_nI (show k < 2 ^ 31 by omega)]
  exact if_neg h
theorem c_rf3 (hN : bN s ≤ 2) (hk : k < bN s) (hu1 : 1 ≤ u) (hu : u ≤ 1000000) (h : bU s k < lN64 u) : kRefill s (nI k) (nI u) = 3 := by
  unfold kRefill
  rw [if_pos (in_n hk (by omega)), if_pos (wth_n1 hu1 hu (by decide) (by decide)), cl_nI (show k < 2 ^ 31 by omega)]
  exact if_pos h
end

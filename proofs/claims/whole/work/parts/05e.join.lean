/-! joining -/
theorem ad_col {n : Nat → Nat → Nat} {f3 f5 f6 : Nat → Nat} {p k v : Nat} : adN (up2 (up2 (up2 n 5 f5) 6 f6) 3 f3) p k v = up2 (up2 (up2 n 5 (upN f5 (64 * p + f3 p) k)) 6 (upN f6 (64 * p + f3 p) v)) 3 (upN f3 p (f3 p + 1)) := by
  unfold adN
  funext j
  show up2 (up2 (up2 (up2 (up2 (up2 n 5 f5) 6 f6) 3 f3) 5 (upN f5 (64 * p + f3 p) k)) 6 (upN f6 (64 * p + f3 p) v)) 3 (upN f3 p (f3 p + 1)) j = _
  by_cases q3 : j = 3
  · subst q3; rw [up2_s, up2_s]
  · by_cases q6 : j = 6
    · subst q6; rw [up2_n q3, up2_s, up2_n q3, up2_s]
    · by_cases q5 : j = 5
      · subst q5; rw [up2_n q3, up2_n q6, up2_s, up2_n q3, up2_n q6, up2_s]
      · rw [up2_n q3, up2_n q6, up2_n q5, up2_n q3, up2_n q6, up2_n q5, up2_n q3, up2_n q6, up2_n q5]
theorem up2_id3 {n : Nat → Nat → Nat} : up2 (up2 (up2 n 5 (n 5)) 6 (n 6)) 3 (n 3) = n := by
  funext j
  by_cases q3 : j = 3
  · subst q3; rw [up2_s]
  · by_cases q6 : j = 6
    · subst q6; rw [up2_n q3, up2_s]
    · by_cases q5 : j = 5
      · subst q5; rw [up2_n q3, up2_n q6, up2_s]
      · rw [up2_n q3, up2_n q6, up2_n q5]
def jnC (na : Nat → Nat → Nat) (f3 f5 f6 : Nat → Nat) (o : Nat) (t1 t2 : List Tok) (k : Nat) : Prop := f3 o = t1.length + k ∧ (∀ i, i ≠ o → f3 i = na 3 i) ∧ tkAt f5 f6 (64 * o) (t1 ++ t2.take k) ∧ ∀ j, (j < 64 * o ∨ 64 * o + 64 ≤ j) → f5 j = na 5 j ∧ f6 j = na 6 j
theorem take_snoc {t : List Tok} {k : Nat} (h : k < t.length) : t.take (k + 1) = t.take k ++ [t.getD k (0, 0)] := by
  rw [List.take_add_one, List.getElem?_eq_getElem h, List.getD_eq_getElem?_getD, List.getElem?_eq_getElem h]; rfl
theorem jnC.step {na : Nat → Nat → Nat} {f3 f5 f6 : Nat → Nat} {o p k : Nat} {t1 t2 : List Tok} (h : jnC na f3 f5 f6 o t1 t2 k) (hk : k < t2.length) (hp : p = o + 1) (ht : tkAt (na 5) (na 6) (64 * p) t2) (hl : t1.length + t2.length ≤ 63) : jnC na (upN f3 o (f3 o + 1)) (upN f5 (64 * o + f3 o) (f5 (64 * p + k))) (upN f6 (64 * o + f3 o) (f6 (64 * p + k))) o t1 t2 (k + 1) := by
  obtain ⟨a, b, c, d⟩ := h
  refine ⟨by rw [upN_s, a]; omega, fun i hi => by rw [upN_n hi]; exact b i hi, ?_, fun j hj => ?_⟩
  · have e := d (64 * p + k) (by omega)
    have g := ht k hk
    rw [e.1, e.2, g.1, g.2, take_snoc hk, ← List.append_assoc]
    have l : f3 o = (t1 ++ t2.take k).length := by rw [a, List.length_append, List.length_take]; omega
    rw [l]
    exact c.snoc
  · rw [upN_n (by omega), upN_n (by omega)]; exact d j hj
theorem top2_e {s : ZS} {ns : Nat → Nat} {na : Nat → Nat → Nat} {ia : Nat → Nat → Int32} {la : Nat → Nat → Int64} (hs : MS s ns na ia la) (h : 2 ≤ ns 2) : na 3 (ns 2 - 2) = (top2 s).1.length ∧ na 4 (ns 2 - 2) = (top2 s).2 ∧ tkAt (na 5) (na 6) (64 * (ns 2 - 2)) (top2 s).1 := by
  have hl : ns 2 = (oS s).length := hs.2.1.1
  have := hs.2.1.2 (ns 2 - 2) (by omega)
  unfold top2
  rw [← hl]; exact this
theorem top2_ok {s : ZS} (hw : WFs s) (h : 2 ≤ (oS s).length) : FOK s (top2 s) := hw.2.1 _ (by omega)
theorem FOK.len31 {s : ZS} {f : Frm} (h : FOK s f) (h6 : ¬ f.2 = 6) : 1 ≤ f.1.length ∧ f.1.length ≤ 31 := by
  have a := h.2.1
  have b := (h.2.2.1.up (show f.2 ≤ 5 by omega)).len
  omega
theorem MS.join {s : ZS} {ns ns2 : Nat → Nat} {na : Nat → Nat → Nat} {ia : Nat → Nat → Int32} {la : Nat → Nat → Int64} {f3 f5 f6 : Nat → Nat} {kd lv : Nat} (hs : MS s ns na ia la) (hw : WFs s) (h2 : 2 ≤ ns 2) (hl : (top2 s).1.length + (top1 s).1.length ≤ 62) (hk : kd < 2 ^ 31) (e2 : ns2 2 = ns 2 - 1) (e7 : ns2 7 = ns 7) (e17 : ns2 17 = ns 17) (e25 : ns2 25 = ns 25) (hj : jnC na f3 f5 f6 (ns 2 - 2) (top2 s).1 (top1 s).1 (top1 s).1.length) (hlv : lv = 1 + max (top2 s).2 (top1 s).2) : MS (nJoin s (nI kd)) ns2 (up2 (adN (up2 (up2 (up2 na 5 f5) 6 f6) 3 f3) (ns 2 - 2) kd 0) 4 (upN (na 4) (ns 2 - 2) lv)) ia la := by
  have hn : ns 2 = (oS s).length := hs.2.1.1
  obtain ⟨a, b, c, d⟩ := hj
  rw [List.take_length] at c
  rw [ad_col]
  refine hs.stk (S2 := (oS s).dropLast.dropLast ++ [fJoin s (nI kd)]) ?_ e7 e17 e25 (fun j h3 h4 h5 h6 => by rw [up2_n h4, up2_n h3, up2_n h6, up2_n h5])
  have x : MSs ((oS s).take (ns 2 - 2)) (ns 2 - 2) (up2 (up2 (up2 (up2 na 5 (upN f5 (64 * (ns 2 - 2) + f3 (ns 2 - 2)) kd)) 6 (upN f6 (64 * (ns 2 - 2) + f3 (ns 2 - 2)) 0)) 3 (upN f3 (ns 2 - 2) (f3 (ns 2 - 2) + 1))) 4 (upN (na 4) (ns 2 - 2) lv)) := hs.2.1.keep (by omega) hw.len (fun i hi => ?_) (fun i hi => ?_) (fun j hj => ⟨?_, ?_⟩)
  · have e : (oS s).dropLast.dropLast = (oS s).take (ns 2 - 2) := by
      rw [List.dropLast_eq_take, List.dropLast_eq_take, List.take_take, List.length_take, hn]; congr 1; omega
    rw [e2, show ns 2 - 1 = ns 2 - 2 + 1 by omega, e]
    refine x.snoc _ ?_ ?_ ?_
    · show upN f3 (ns 2 - 2) (f3 (ns 2 - 2) + 1) (ns 2 - 2) = _
      rw [upN_s, a]; unfold fJoin; simp only [List.length_append, List.length_cons, List.length_nil]
    · show upN (na 4) (ns 2 - 2) lv (ns 2 - 2) = _
      rw [upN_s, hlv]; rfl
    · show tkAt (upN f5 (64 * (ns 2 - 2) + f3 (ns 2 - 2)) kd) (upN f6 (64 * (ns 2 - 2) + f3 (ns 2 - 2)) 0) (64 * (ns 2 - 2)) ((top2 s).1 ++ (top1 s).1 ++ [(cl (nI kd), 0)])
      rw [cl_nI hk, a, show (top2 s).1.length + (top1 s).1.length = ((top2 s).1 ++ (top1 s).1).length by rw [List.length_append]]
      exact c.snoc
  · show upN f3 (ns 2 - 2) _ i = _
    rw [upN_n (by omega)]; exact b i (by omega)
  · show upN (na 4) (ns 2 - 2) lv i = _
    rw [upN_n (by omega)]
  · show upN f5 _ kd j = _
    rw [upN_n (by omega)]; exact (d j (by omega)).1
  · show upN f6 _ 0 j = _
    rw [upN_n (by omega)]; exact (d j (by omega)).2

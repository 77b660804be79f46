/-! THE MODEL's arrays and the state -/
def sF (s : ZS) (i : Nat) : Frm := (oS s).getD i ([], 0)
def tkAt (kf nf : Nat → Nat) (b : Nat) (t : List Tok) : Prop := ∀ j, j < t.length → kf (b + j) = (t.getD j (0, 0)).1 ∧ nf (b + j) = (t.getD j (0, 0)).2
def b01 (b : Bool) : Int32 := if b = true then 1 else 0
def MSa (A : Nat → Nat → Int32) (f : Nat → Int32) : Prop := ∀ a q, a < 6 → q < 20 → f (20 * a + q) = A a q
def MSs (S : List Frm) (n : Nat) (na : Nat → Nat → Nat) : Prop := n = S.length ∧ ∀ i, i < S.length → na 3 i = (S.getD i ([], 0)).1.length ∧ na 4 i = (S.getD i ([], 0)).2 ∧ tkAt (na 5) (na 6) (64 * i) (S.getD i ([], 0)).1
def MSt (T : ZT) (n : Nat) (na : Nat → Nat → Nat) : Prop := n = T.1 ∧ (∀ t, t < T.1 → na 8 t = T.2.1 t) ∧ ∀ t q, t < 10 → q < 20 → na 9 (20 * t + q) = ((T.2.2 t q).getD []).length ∧ tkAt (na 10) (na 11) (64 * (20 * t + q)) ((T.2.2 t q).getD [])
def MSr (R : ZR) (n : Nat) (na : Nat → Nat → Nat) (ia : Nat → Nat → Int32) : Prop := n = R.1 ∧ ∀ r, r < 6 → na 18 r = R.2.1 r ∧ na 19 r = R.2.2.1 r ∧ ia 21 r = R.2.2.2.2.1 r ∧ ia 22 r = R.2.2.2.2.2.1 r ∧ ∀ q, q < 20 → ia 20 (20 * r + q) = R.2.2.2.1 r q ∧ ia 23 (20 * r + q) = R.2.2.2.2.2.2.1 r q ∧ ia 24 (20 * r + q) = b01 (R.2.2.2.2.2.2.2 r q)
def MSb (B : ZB) (n : Nat) (na : Nat → Nat → Nat) (ia : Nat → Nat → Int32) (la : Nat → Nat → Int64) : Prop := n = B.1 ∧ ∀ b, b < 6 → ia 26 b = B.2.1 b ∧ na 27 b = B.2.2.1 b ∧ ia 28 b = B.2.2.2.1 b ∧ la 29 b = B.2.2.2.2 b
def MS (s : ZS) (ns : Nat → Nat) (na : Nat → Nat → Nat) (ia : Nat → Nat → Int32) (la : Nat → Nat → Int64) : Prop := MSa (oA s) (ia 1) ∧ MSs (oS s) (ns 2) na ∧ MSt (oT s) (ns 7) na ∧ MSr (oR s) (ns 17) na ia ∧ MSb (oB s) (ns 25) na ia la
/-- what the state keeps -/
def FOK (s : ZS) (f : Frm) : Prop := 1 ≤ f.2 ∧ f.2 ≤ 6 ∧ WL (oL s) f.2 f.1 ∧ gtk f.1 ≤ oN s
def WFa (A : Nat → Nat → Int32) : Prop := ∀ a q, a < 6 → q < 20 → wth (A a q) (-1000000) 1000000
def WFt (s : ZS) : Prop := oN s ≤ 10 ∧ (∀ t, t < oN s → 1 ≤ oL s t ∧ oL s t ≤ 6 ∧ oD s t 0 ≠ none ∧ ∀ q f, oD s t q = some f → WL (oL s) (oL s t) f ∧ gtk f ≤ t) ∧ ∀ t q, oN s ≤ t → oD s t q = none
def WFr (s : ZS) : Prop := rN s ≤ 6 ∧ (∀ r, r < rN s → rT s r < oN s ∧ rB s r < oN s ∧ (rW s r = -1 ∨ inN (rW s r) 6) ∧ ∀ q, q < 20 → wth (rL s r q) (-1) 10000 ∧ wth (rC s r q) 0 1000000) ∧ ∀ r, rN s ≤ r → rW s r = -1 ∧ rE s r = 0 ∧ ∀ q, rL s r q = -1 ∧ rC s r q = 0 ∧ rV s r q = false
def WFb (s : ZS) : Prop := bN s ≤ 6 ∧ (∀ b, b < bN s → bT s b < oN s ∧ wth (bF s b) 0 1000000 ∧ wth (bP s b) 0 100) ∧ ∀ b, bN s ≤ b → bU s b = 0
def WFs (s : ZS) : Prop := (oS s).length ≤ 8 ∧ (∀ i, i < (oS s).length → FOK s (sF s i)) ∧ WFt s ∧ WFa (oA s) ∧ WFr s ∧ WFb s
def MO (G : zG) (h0 h : zH) (m : Nat) (ad : Nat → Nat) (s : ZS) (k : Nat) : Prop := ∃ (ns : Nat → Nat) (na : Nat → Nat → Nat) (ia : Nat → Nat → Int32) (la : Nat → Nat → Int64), MR G h0 h m ad ns na ia la ∧ MS s ns na ia la ∧ ns 0 = k
theorem ix20 {a q i j : Nat} (hq : q < 20) (hj : j < 20) : 20 * a + q = 20 * i + j ↔ a = i ∧ q = j := by omega
theorem cl_nI {j : Nat} (h : j < 2 ^ 31) : cl (nI j) = j := nI_clamp h
theorem MSa.put {A : Nat → Nat → Int32} {f : Nat → Int32} (h : MSa A f) {a q : Nat} {v : Int32} (hq : q < 20) : MSa (up3 A a q v) (up2 f (20 * a + q) v) := fun i j hi hj => by
  by_cases z : i = a ∧ j = q
  · obtain ⟨rfl, rfl⟩ := z; rw [up2_s, up3_s]
  · rw [up2_n (fun y => z ((ix20 hj hq).mp y)), up3_n z]; exact h i j hi hj
/-! rows of tokens -/
def adN (na : Nat → Nat → Nat) (p k n : Nat) : Nat → Nat → Nat := up2 (up2 (up2 na 5 (upN (na 5) (64 * p + na 3 p) k)) 6 (upN (na 6) (64 * p + na 3 p) n)) 3 (upN (na 3) p (na 3 p + 1))
def puN (na : Nat → Nat → Nat) (p k n lv : Nat) : Nat → Nat → Nat := adN (up2 (up2 na 3 (upN (na 3) p 0)) 4 (upN (na 4) p lv)) p k n
theorem snocF {S : List Frm} {f : Frm} {i : Nat} (h : i < S.length) : (S ++ [f]).getD i ([], 0) = S.getD i ([], 0) := by
  rw [List.getD_eq_getElem?_getD, List.getD_eq_getElem?_getD, List.getElem?_append_left h]
theorem snocFl {S : List Frm} {f : Frm} : (S ++ [f]).getD S.length ([], 0) = f := by
  rw [List.getD_eq_getElem?_getD, List.getElem?_append_right (Nat.le_refl _)]; simp
theorem takeF {S : List Frm} {p i : Nat} (h : i < p) : (S.take p).getD i ([], 0) = S.getD i ([], 0) := by
  rw [List.getD_eq_getElem?_getD, List.getD_eq_getElem?_getD, List.getElem?_take, if_pos h]
theorem MSs.keep {S : List Frm} {n p : Nat} {na na2 : Nat → Nat → Nat} (h : MSs S n na) (hp : p ≤ S.length) (hl : ∀ i, i < S.length → (S.getD i ([], 0)).1.length ≤ 63) (h3 : ∀ i, i < p → na2 3 i = na 3 i) (h4 : ∀ i, i < p → na2 4 i = na 4 i) (h5 : ∀ j, j < 64 * p → na2 5 j = na 5 j ∧ na2 6 j = na 6 j) : MSs (S.take p) p na2 := by
  refine ⟨by rw [List.length_take]; omega, fun i hi => ?_⟩
  rw [List.length_take] at hi
  have hi2 : i < S.length := by omega
  obtain ⟨a, b, c⟩ := h.2 i hi2
  rw [takeF (by omega)]
  refine ⟨by rw [h3 i (by omega)]; exact a, by rw [h4 i (by omega)]; exact b, fun j hj => ?_⟩
  have := hl i hi2
  have q := h5 (64 * i + j) (by omega)
  rw [q.1, q.2]; exact c j hj
theorem MSs.snoc {T : List Frm} {n : Nat} {na : Nat → Nat → Nat} (h : MSs T n na) (f : Frm) (h3 : na 3 n = f.1.length) (h4 : na 4 n = f.2) (h5 : tkAt (na 5) (na 6) (64 * n) f.1) : MSs (T ++ [f]) (n + 1) na := by
  have hn := h.1
  refine ⟨by rw [List.length_append, ← hn]; rfl, fun i hi => ?_⟩
  rw [List.length_append] at hi
  by_cases q : i < T.length
  · rw [snocF q]; exact h.2 i q
  · have e : i = T.length := by simp at hi; omega
    subst e
    rw [snocFl, ← hn]; exact ⟨h3, h4, h5⟩
theorem tkAt.snoc {kf nf : Nat → Nat} {b k n : Nat} {t : List Tok} (h : tkAt kf nf b t) : tkAt (upN kf (b + t.length) k) (upN nf (b + t.length) n) b (t ++ [(k, n)]) := fun j hj => by
  by_cases q : j < t.length
  · rw [upN_n (by omega), upN_n (by omega)]
    rw [List.getD_eq_getElem?_getD, List.getElem?_append_left q, ← List.getD_eq_getElem?_getD]; exact h j q
  · have e : j = t.length := by simp at hj; omega
    subst e
    rw [upN_s, upN_s, List.getD_eq_getElem?_getD, List.getElem?_append_right (Nat.le_refl _)]; simp
theorem MS.stk {s : ZS} {ns ns2 : Nat → Nat} {na na2 : Nat → Nat → Nat} {ia : Nat → Nat → Int32} {la : Nat → Nat → Int64} (hs : MS s ns na ia la) {S2 : List Frm} (hS : MSs S2 (ns2 2) na2) (e7 : ns2 7 = ns 7) (e17 : ns2 17 = ns 17) (e25 : ns2 25 = ns 25) (hk : ∀ k, k ≠ 3 → k ≠ 4 → k ≠ 5 → k ≠ 6 → na2 k = na k) : MS (s.1, S2, s.2.2) ns2 na2 ia la := by
  obtain ⟨a, b, c, d, e⟩ := hs
  refine ⟨a, hS, ?_, ?_, ?_⟩
  · unfold MSt at c ⊢
    rw [e7, hk 8 (by decide) (by decide) (by decide) (by decide), hk 9 (by decide) (by decide) (by decide) (by decide), hk 10 (by decide) (by decide) (by decide) (by decide), hk 11 (by decide) (by decide) (by decide) (by decide)]; exact c
  · unfold MSr at d ⊢
    rw [e17, hk 18 (by decide) (by decide) (by decide) (by decide), hk 19 (by decide) (by decide) (by decide) (by decide)]; exact d
  · unfold MSb at e ⊢
    rw [e25, hk 27 (by decide) (by decide) (by decide) (by decide)]; exact e
theorem adN_k {na : Nat → Nat → Nat} {p k n j : Nat} (h3 : j ≠ 3) (h5 : j ≠ 5) (h6 : j ≠ 6) : adN na p k n j = na j := by
  unfold adN; rw [up2_n h3, up2_n h6, up2_n h5]
theorem WFs.len {s : ZS} (hw : WFs s) : ∀ i, i < (oS s).length → ((oS s).getD i ([], 0)).1.length ≤ 63 := fun i hi => by
  have h := hw.2.1 i hi
  exact (h.2.2.1.len63 h.2.1).2
theorem MS.push {s : ZS} {ns ns2 : Nat → Nat} {na : Nat → Nat → Nat} {ia : Nat → Nat → Int32} {la : Nat → Nat → Int64} (hs : MS s ns na ia la) (hw : WFs s) {k n lv : Nat} (e2 : ns2 2 = ns 2 + 1) (e7 : ns2 7 = ns 7) (e17 : ns2 17 = ns 17) (e25 : ns2 25 = ns 25) : MS (nPush s ([(k, n)], lv)) ns2 (puN na (ns 2) k n lv) ia la := by
  have hl : ns 2 = (oS s).length := hs.2.1.1
  refine hs.stk ?_ e7 e17 e25 (fun j h3 h4 h5 h6 => ?_)
  · rw [e2]
    have a : MSs ((oS s).take (ns 2)) (ns 2) (puN na (ns 2) k n lv) := hs.2.1.keep (by omega) hw.len (fun i hi => ?_) (fun i hi => ?_) (fun j hj => ⟨?_, ?_⟩)
    · rw [hl, List.take_length] at a
      rw [← hl] at a
      refine a.snoc _ ?_ ?_ ?_
      · show upN (upN (na 3) (ns 2) 0) (ns 2) (upN (na 3) (ns 2) 0 (ns 2) + 1) (ns 2) = 1
        rw [upN_s, upN_s]
      · show upN (na 4) (ns 2) lv (ns 2) = lv
        rw [upN_s]
      · show tkAt (upN (na 5) (64 * ns 2 + upN (na 3) (ns 2) 0 (ns 2)) k) (upN (na 6) (64 * ns 2 + upN (na 3) (ns 2) 0 (ns 2)) n) (64 * ns 2) ([] ++ [(k, n)])
        rw [upN_s]
        exact tkAt.snoc (t := []) (fun j hj => absurd hj (by simp))
    · show upN (upN (na 3) (ns 2) 0) (ns 2) _ i = _
      rw [upN_n (by omega), upN_n (by omega)]
    · show upN (na 4) (ns 2) lv i = _
      rw [upN_n (by omega)]
    · show upN (na 5) (64 * ns 2 + upN (na 3) (ns 2) 0 (ns 2)) k j = _
      rw [upN_n (by omega)]
    · show upN (na 6) (64 * ns 2 + upN (na 3) (ns 2) 0 (ns 2)) n j = _
      rw [upN_n (by omega)]
  · unfold puN
    rw [adN_k h3 h5 h6, up2_n h4, up2_n h3]
theorem top1_e {s : ZS} {ns : Nat → Nat} {na : Nat → Nat → Nat} {ia : Nat → Nat → Int32} {la : Nat → Nat → Int64} (hs : MS s ns na ia la) (h : 0 < ns 2) : na 3 (ns 2 - 1) = (top1 s).1.length ∧ na 4 (ns 2 - 1) = (top1 s).2 ∧ tkAt (na 5) (na 6) (64 * (ns 2 - 1)) (top1 s).1 := by
  have hl : ns 2 = (oS s).length := hs.2.1.1
  have := hs.2.1.2 (ns 2 - 1) (by omega)
  unfold top1
  rw [← hl]; exact this
theorem top1_ok {s : ZS} (hw : WFs s) (h : 0 < (oS s).length) : FOK s (top1 s) := hw.2.1 _ (by omega)
/-! definitions -/
def dfC (na : Nat → Nat → Nat) (f10 f11 : Nat → Nat) (p d k : Nat) : Prop := (∀ j, j < k → f10 (64 * d + j) = na 5 (64 * p + j) ∧ f11 (64 * d + j) = na 6 (64 * p + j)) ∧ ∀ j, j < 64 * d ∨ 64 * d + 64 ≤ j → f10 j = na 10 j ∧ f11 j = na 11 j
def dfN (na : Nat → Nat → Nat) (f10 f11 : Nat → Nat) (p d : Nat) : Nat → Nat → Nat := up2 (up2 (up2 na 9 (upN (na 9) d (na 3 p))) 10 f10) 11 f11
theorem dfC.step {na : Nat → Nat → Nat} {f10 f11 : Nat → Nat} {p d k : Nat} (h : dfC na f10 f11 p d k) (hk : k < 64) : dfC na (upN f10 (64 * d + k) (na 5 (64 * p + k))) (upN f11 (64 * d + k) (na 6 (64 * p + k))) p d (k + 1) := by
  refine ⟨fun j hj => ?_, fun j hj => ?_⟩
  · by_cases q : j = k
    · subst q; exact ⟨upN_s, upN_s⟩
    · rw [upN_n (by omega), upN_n (by omega)]; exact h.1 j (by omega)
  · rw [upN_n (by omega), upN_n (by omega)]; exact h.2 j hj
theorem WFt.len {s : ZS} (hw : WFt s) (t q : Nat) : ((oD s t q).getD []).length ≤ 63 := by
  by_cases h : t < oN s
  · cases hd : oD s t q with
    | none => exact Nat.zero_le _
    | some f =>
      have a := hw.2.1 t h
      exact ((a.2.2.2 q f hd).1.len63 a.2.1).2
  · rw [hw.2.2 t q (by omega)]; exact Nat.zero_le _
theorem MSt.put {s : ZS} {n n2 p t q : Nat} {na : Nat → Nat → Nat} {f10 f11 : Nat → Nat} {tl2 : Nat → Nat} {f : List Tok} {na2 : Nat → Nat → Nat} (h : MSt (oT s) n na) (hw : WFt s) (ht : t < 10) (hq : q < 20) (hf : tkAt (na 5) (na 6) (64 * p) f) (hl : na 3 p = f.length) (hc : dfC na f10 f11 p (20 * t + q) f.length) (h9 : na2 9 = upN (na 9) (20 * t + q) f.length) (h10 : na2 10 = f10) (h11 : na2 11 = f11) (h8 : ∀ i, i < n2 → na2 8 i = tl2 i) : MSt (n2, tl2, up3 (oD s) t q (some f)) n2 na2 := by
  refine ⟨rfl, h8, fun i j hi hj => ?_⟩
  rw [h9, h10, h11]
  by_cases z : i = t ∧ j = q
  · obtain ⟨rfl, rfl⟩ := z
    show upN _ _ _ _ = ((up3 (oD s) i j (some f) i j).getD []).length ∧ tkAt f10 f11 _ ((up3 (oD s) i j (some f) i j).getD [])
    rw [up3_s, upN_s]
    refine ⟨rfl, fun k hk => ?_⟩
    have a := hc.1 k hk
    rw [a.1, a.2]; exact hf k hk
  · show upN _ _ _ _ = ((up3 (oD s) t q (some f) i j).getD []).length ∧ tkAt f10 f11 _ ((up3 (oD s) t q (some f) i j).getD [])
    rw [up3_n z, upN_n (fun y => z ((ix20 hj hq).mp y))]
    obtain ⟨a, b⟩ := h.2.2 i j hi hj
    refine ⟨a, fun k hk => ?_⟩
    have l : ((oD s i j).getD []).length ≤ 63 := hw.len i j
    have hk2 : k < ((oD s i j).getD []).length := hk
    have ne : ¬ 20 * i + j = 20 * t + q := fun y => z ((ix20 hj hq).mp y)
    have c := hc.2 (64 * (20 * i + j) + k) (by omega)
    rw [c.1, c.2]; exact b k hk
theorem MS.def {s : ZS} {ns ns2 : Nat → Nat} {na na2 : Nat → Nat → Nat} {ia : Nat → Nat → Int32} {la : Nat → Nat → Int64} (hs : MS s ns na ia la) (hw : WFs s) {T2 : ZT} (hT : MSt T2 (ns2 7) na2) (h0 : 0 < ns 2) (e2 : ns2 2 = ns 2 - 1) (e17 : ns2 17 = ns 17) (e25 : ns2 25 = ns 25) (hk : ∀ k, k ≠ 8 → k ≠ 9 → k ≠ 10 → k ≠ 11 → na2 k = na k) : MS (s.1, (oS s).dropLast, T2, s.2.2.2) ns2 na2 ia la := by
  obtain ⟨a, b, c, d, e⟩ := hs
  have hl : ns 2 = (oS s).length := b.1
  refine ⟨a, ?_, hT, ?_, ?_⟩
  · rw [e2]
    show MSs (oS s).dropLast (ns 2 - 1) na2
    rw [List.dropLast_eq_take, ← hl]
    have k3 := hk 3 (by decide) (by decide) (by decide) (by decide)
    have k4 := hk 4 (by decide) (by decide) (by decide) (by decide)
    have k5 := hk 5 (by decide) (by decide) (by decide) (by decide)
    have k6 := hk 6 (by decide) (by decide) (by decide) (by decide)
    exact b.keep (by omega) hw.len (fun _ _ => by rw [k3]) (fun _ _ => by rw [k4]) (fun _ _ => by rw [k5, k6]; exact ⟨rfl, rfl⟩)
  · unfold MSr at d ⊢
    rw [e17, hk 18 (by decide) (by decide) (by decide) (by decide), hk 19 (by decide) (by decide) (by decide) (by decide)]; exact d
  · unfold MSb at e ⊢
    rw [e25, hk 27 (by decide) (by decide) (by decide) (by decide)]; exact e
theorem dfN_k {na : Nat → Nat → Nat} {f10 f11 : Nat → Nat} {p d k : Nat} (h9 : k ≠ 9) (h10 : k ≠ 10) (h11 : k ≠ 11) : dfN na f10 f11 p d k = na k := by
  unfold dfN; rw [up2_n h11, up2_n h10, up2_n h9]
theorem MS.amend {s : ZS} {ns ns2 : Nat → Nat} {na : Nat → Nat → Nat} {ia : Nat → Nat → Int32} {la : Nat → Nat → Int64} {f10 f11 : Nat → Nat} {t q : Nat} (hs : MS s ns na ia la) (hw : WFs s) (h0 : 0 < ns 2) (ht : t < ns 7) (hq : q < 20) (e2 : ns2 2 = ns 2 - 1) (e7 : ns2 7 = ns 7) (e17 : ns2 17 = ns 17) (e25 : ns2 25 = ns 25) (hdf : dfC na f10 f11 (ns 2 - 1) (20 * t + q) (na 3 (ns 2 - 1))) : MS (s.1, (oS s).dropLast, (oN s, oL s, up3 (oD s) t q (some (top1 s).1)), s.2.2.2) ns2 (dfN na f10 f11 (ns 2 - 1) (20 * t + q)) ia la := by
  have hn : ns 7 = oN s := hs.2.2.1.1
  have hn2 : oN s ≤ 10 := hw.2.2.1.1
  obtain ⟨t3, t4, t5⟩ := top1_e hs h0
  refine hs.def hw ?_ h0 e2 e17 e25 (fun k k8 k9 k10 k11 => dfN_k k9 k10 k11)
  rw [e7, hn]
  rw [t3] at hdf
  exact MSt.put (na := na) (n := ns 7) (p := ns 2 - 1) (f10 := f10) (f11 := f11) hs.2.2.1 hw.2.2.1 (by omega) hq t5 t3 hdf (by show upN (na 9) _ (na 3 (ns 2 - 1)) = _; rw [t3]) rfl rfl (fun i hi => hs.2.2.1.2.1 i hi)

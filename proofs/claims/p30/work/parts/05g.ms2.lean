/-! tests and baskets of the model -/
theorem MS.rat {s : ZS} {ns ns2 : Nat → Nat} {na na2 : Nat → Nat → Nat} {ia ia2 : Nat → Nat → Int32} {la : Nat → Nat → Int64} (hs : MS s ns na ia la) {R2 : ZR} (hR : MSr R2 (ns2 17) na2 ia2) (e2 : ns2 2 = ns 2) (e7 : ns2 7 = ns 7) (e25 : ns2 25 = ns 25) (hn : ∀ k, k ≠ 18 → k ≠ 19 → na2 k = na k) (hi : ∀ k, k ≠ 20 → k ≠ 21 → k ≠ 22 → k ≠ 23 → k ≠ 24 → ia2 k = ia k) : MS (s.1, s.2.1, s.2.2.1, R2, s.2.2.2.2) ns2 na2 ia2 la := by
  obtain ⟨a, b, c, d, e⟩ := hs
  refine ⟨?_, ?_, ?_, hR, ?_⟩
  · rw [hi 1 (by decide) (by decide) (by decide) (by decide) (by decide)]; exact a
  · unfold MSs at b ⊢
    rw [e2, hn 3 (by decide) (by decide), hn 4 (by decide) (by decide), hn 5 (by decide) (by decide), hn 6 (by decide) (by decide)]; exact b
  · unfold MSt at c ⊢
    rw [e7, hn 8 (by decide) (by decide), hn 9 (by decide) (by decide), hn 10 (by decide) (by decide), hn 11 (by decide) (by decide)]; exact c
  · unfold MSb at e ⊢
    rw [e25, hn 27 (by decide) (by decide), hi 26 (by decide) (by decide) (by decide) (by decide) (by decide), hi 28 (by decide) (by decide) (by decide) (by decide) (by decide)]; exact e
theorem MS.bas {s : ZS} {ns ns2 : Nat → Nat} {na na2 : Nat → Nat → Nat} {ia ia2 : Nat → Nat → Int32} {la la2 : Nat → Nat → Int64} (hs : MS s ns na ia la) {B2 : ZB} (hB : MSb B2 (ns2 25) na2 ia2 la2) (e2 : ns2 2 = ns 2) (e7 : ns2 7 = ns 7) (e17 : ns2 17 = ns 17) (hn : ∀ k, k ≠ 27 → na2 k = na k) (hi : ∀ k, k ≠ 26 → k ≠ 28 → ia2 k = ia k) : MS (s.1, s.2.1, s.2.2.1, s.2.2.2.1, B2) ns2 na2 ia2 la2 := by
  obtain ⟨a, b, c, d, e⟩ := hs
  refine ⟨?_, ?_, ?_, ?_, hB⟩
  · rw [hi 1 (by decide) (by decide)]; exact a
  · unfold MSs at b ⊢
    rw [e2, hn 3 (by decide), hn 4 (by decide), hn 5 (by decide), hn 6 (by decide)]; exact b
  · unfold MSt at c ⊢
    rw [e7, hn 8 (by decide), hn 9 (by decide), hn 10 (by decide), hn 11 (by decide)]; exact c
  · unfold MSr at d ⊢
    rw [e17, hn 18 (by decide), hn 19 (by decide), hi 20 (by decide) (by decide), hi 21 (by decide) (by decide), hi 22 (by decide) (by decide), hi 23 (by decide) (by decide), hi 24 (by decide) (by decide)]; exact d
section
variable {s : ZS} {ns ns2 : Nat → Nat} {na : Nat → Nat → Nat} {ia : Nat → Nat → Int32} {la : Nat → Nat → Int64}
theorem up2_eq {α : Type} {f g : Nat → α} {k i : Nat} {v : α} (h : f i = g i) : up2 f k v i = up2 g k v i := by
  by_cases q : i = k
  · subst q; rw [up2_s, up2_s]
  · rw [up2_n q, up2_n q, h]
theorem upN_up2 {f g : Nat → Nat} {k i v : Nat} (h : f i = g i) : upN f k v i = up2 g k v i := by
  by_cases q : i = k
  · subst q; rw [upN_s, up2_s]
  · rw [upN_n q, up2_n q, h]
theorem MS.test (hs : MS s ns na ia la) {a b : Nat} (e2 : ns2 2 = ns 2) (e7 : ns2 7 = ns 7) (e17 : ns2 17 = ns 17 + 1) (e25 : ns2 25 = ns 25) : MS (s.1, s.2.1, s.2.2.1, (rN s + 1, up2 (rT s) (rN s) a, up2 (rB s) (rN s) b, rL s, rW s, rE s, rC s, rV s), s.2.2.2.2) ns2 (up2 (up2 na 18 (upN (na 18) (ns 17) a)) 19 (upN (na 19) (ns 17) b)) ia la := by
  have hn : ns 17 = rN s := hs.2.2.2.1.1
  refine hs.rat (R2 := (rN s + 1, up2 (rT s) (rN s) a, up2 (rB s) (rN s) b, rL s, rW s, rE s, rC s, rV s)) ⟨by rw [e17, hn], fun r hr => ?_⟩ e2 e7 e25 (fun k h18 h19 => by rw [up2_n h19, up2_n h18]) (fun _ _ _ _ _ _ => rfl)
  obtain ⟨x1, x2, x3⟩ := hs.2.2.2.1.2 r hr
  refine ⟨?_, ?_, x3⟩
  · show upN (na 18) (ns 17) a r = up2 (rT s) (rN s) a r
    rw [hn]; exact upN_up2 x1
  · show upN (na 19) (ns 17) b r = up2 (rB s) (rN s) b r
    rw [hn]; exact upN_up2 x2
theorem MS.basket (hs : MS s ns na ia la) (hw : WFs s) {f p : Int32} {t : Nat} (e2 : ns2 2 = ns 2) (e7 : ns2 7 = ns 7) (e17 : ns2 17 = ns 17) (e25 : ns2 25 = ns 25 + 1) : MS (s.1, s.2.1, s.2.2.1, s.2.2.2.1, (bN s + 1, up2 (bF s) (bN s) f, up2 (bT s) (bN s) t, up2 (bP s) (bN s) p, up2 (bU s) (bN s) 0)) ns2 (up2 na 27 (upN (na 27) (ns 25) t)) (up2 (up2 ia 26 (up2 (ia 26) (ns 25) f)) 28 (up2 (ia 28) (ns 25) p)) la := by
  have hn : ns 25 = bN s := hs.2.2.2.2.1
  refine hs.bas (B2 := (bN s + 1, up2 (bF s) (bN s) f, up2 (bT s) (bN s) t, up2 (bP s) (bN s) p, up2 (bU s) (bN s) 0)) ⟨by rw [e25, hn], fun b hb => ?_⟩ e2 e7 e17 (fun k h27 => up2_n h27) (fun k h26 h28 => by rw [up2_n h28, up2_n h26])
  obtain ⟨x1, x2, x3, x4⟩ := hs.2.2.2.2.2 b hb
  rw [hn]
  refine ⟨up2_eq x1, upN_up2 x2, up2_eq x3, ?_⟩
  show la 29 b = up2 (bU s) (bN s) 0 b
  by_cases q : b = bN s
  · subst q; rw [up2_s]; rw [x4]; exact hw.2.2.2.2.2.2.2 _ (Nat.le_refl _)
  · rw [up2_n q]; exact x4
theorem MS.used (hs : MS s ns na ia la) {b : Nat} {v : Int64} (e2 : ns2 2 = ns 2) (e7 : ns2 7 = ns 7) (e17 : ns2 17 = ns 17) (e25 : ns2 25 = ns 25) : MS (s.1, s.2.1, s.2.2.1, s.2.2.2.1, (bN s, bF s, bT s, bP s, up2 (bU s) b v)) ns2 na ia (up2 la 29 (up2 (la 29) b v)) := by
  refine hs.bas (B2 := (bN s, bF s, bT s, bP s, up2 (bU s) b v)) ⟨by rw [e25]; exact hs.2.2.2.2.1, fun i hi => ?_⟩ e2 e7 e17 (fun _ _ => rfl) (fun _ _ _ => rfl)
  obtain ⟨x1, x2, x3, x4⟩ := hs.2.2.2.2.2 i hi
  exact ⟨x1, x2, x3, up2_eq x4⟩
end

/-! THE LAW's invariant -/
def LI (G : zG) (h : zH) (g : XGh) (x : Nat) (ad : Nat → Nat) (s : ZS) (F : Nat → Nat) (A D : Nat → Int32) (VV : Nat → Nat) (B U : Nat → Int32) (S : Nat → Nat) (T : Nat → List Tok) (lv : Nat → Nat) (N w : Nat) : Prop :=
  XI G h g x s ∧ WFs s ∧ LW G h g ad F A D VV B U S ∧ RS s F A D VV B U S T lv N w
theorem fe_new {F2 : Nat → Nat} {T : Nat → List Tok} {lv tl : Nat → Nat} {M N : Nat} {f : Frm} (l1 : 1 ≤ f.2) (l6 : f.2 ≤ 6) (l3 : F2 (4 * N + 3) = f.2) (h : (F2 (4 * N) = 4 ∧ F2 (4 * N + 1) < 6 ∧ f.1 = [(4, F2 (4 * N + 1))] ∧ f.2 = 1) ∨ (F2 (4 * N) = 5 ∧ F2 (4 * N + 1) ≤ 1000000 ∧ f.1 = [(5, F2 (4 * N + 1))] ∧ f.2 = 1) ∨ (F2 (4 * N) = 6 ∧ F2 (4 * N + 1) < M ∧ f.1 = [(6, F2 (4 * N + 1))] ∧ f.2 = tl (F2 (4 * N + 1)) + 1) ∨ (F2 (4 * N) < 4 ∧ F2 (4 * N + 1) < N ∧ F2 (4 * N + 2) < N ∧ f.1 = T (F2 (4 * N + 1)) ++ T (F2 (4 * N + 2)) ++ [(F2 (4 * N), 0)] ∧ f.2 = 1 + max (lv (F2 (4 * N + 1))) (lv (F2 (4 * N + 2)))) ∨ (F2 (4 * N) = 7 ∧ F2 (4 * N + 1) < N ∧ F2 (4 * N + 2) ≤ 100 ∧ f.1 = T (F2 (4 * N + 1)) ++ [(7, F2 (4 * N + 2))] ∧ f.2 = lv (F2 (4 * N + 1)) + 1) ∨ (F2 (4 * N) = 8 ∧ F2 (4 * N + 1) < N ∧ f.1 = T (F2 (4 * N + 1)) ++ [(8, 0)] ∧ f.2 = lv (F2 (4 * N + 1)) + 1)) : FE F2 (up2 T N f.1) (upN lv N f.2) tl M N := by
  unfold FE
  rw [up2_s, upN_s]
  refine ⟨l1, l6, l3, ?_⟩
  rcases h with h | h | h | ⟨a, b, c, d, e⟩ | ⟨a, b, c, d, e⟩ | ⟨a, b, c, d⟩
  · exact Or.inl h
  · exact Or.inr (Or.inl h)
  · exact Or.inr (Or.inr (Or.inl h))
  · exact Or.inr (Or.inr (Or.inr (Or.inl ⟨a, b, c, by rw [up2_n (by omega), up2_n (by omega)]; exact d, by rw [upN_n (by omega), upN_n (by omega)]; exact e⟩)))
  · exact Or.inr (Or.inr (Or.inr (Or.inr (Or.inl ⟨a, b, c, by rw [up2_n (by omega)]; exact d, by rw [upN_n (by omega)]; exact e⟩))))
  · exact Or.inr (Or.inr (Or.inr (Or.inr (Or.inr ⟨a, b, by rw [up2_n (by omega)]; exact c, by rw [upN_n (by omega)]; exact d⟩))))
theorem wth_sub {u b n : Nat} {v : Int32} (e : v = nI u - nI b) (hu : u ≤ n) (hn : n ≤ 1000000) (hb : b ≤ 1000000) : wth v (-1000000) 1000000 := by
  rw [wth_iff, i32_le, i32_le, show ((-1000000 : Int32)).toInt = -1000000 by decide, show ((1000000 : Int32)).toInt = 1000000 by decide, e, pk_sub_toInt (by omega) (by omega)]
  omega
theorem wth_n {u n : Nat} {hi : Int32} (h : u ≤ n) (hn : n < 2 ^ 30) (e : hi = nI n) : wth (nI u) 0 hi := by
  rw [wth_iff, i32_le, i32_le, e, nI_toInt (by omega), nI_toInt (by omega), show ((0 : Int32)).toInt = 0 from rfl]
  omega
theorem wth_n1 {u n : Nat} {hi : Int32} (h1 : 1 ≤ u) (h : u ≤ n) (hn : n < 2 ^ 30) (e : hi = nI n) : wth (nI u) 1 hi := by
  rw [wth_iff, i32_le, i32_le, e, nI_toInt (by omega), nI_toInt (by omega), show ((1 : Int32)).toInt = 1 from rfl]
  omega
theorem gI_lt {n g : Nat} (hn : n < 2 ^ 30) (hg : g < 2 ^ 30) : gI g < nI n ↔ g ≤ n := by
  rw [i32_lt, gI_toInt hg, nI_toInt (by omega)]; omega
section
variable {s : ZS} {S : Nat → Nat} {T : Nat → List Tok} {lv : Nat → Nat} {N : Nat}
theorem ES.top1 (h : ES s S T lv N) (h0 : 0 < (oS s).length) : S ((oS s).length - 1) < N ∧ top1 s = (T (S ((oS s).length - 1)), lv (S ((oS s).length - 1))) := h _ (by omega)
theorem ES.top2 (h : ES s S T lv N) (h0 : 1 < (oS s).length) : S ((oS s).length - 2) < N ∧ top2 s = (T (S ((oS s).length - 2)), lv (S ((oS s).length - 2))) := h _ (by omega)
end

/-! telling all terms -/
theorem up2_sw {n : Nat → Nat → Int64} {a b c : Nat → Int64} : up2 (up2 (up2 n 13 a) 12 b) 13 c = up2 (up2 n 13 c) 12 b := by
  funext j
  by_cases q : j = 13
  · subst q; rw [up2_s, up2_n (by decide), up2_s]
  · by_cases z : j = 12
    · subst z; rw [up2_n q, up2_s, up2_s]
    · rw [up2_n q, up2_n z, up2_n q, up2_n z, up2_n q]
theorem up2_id12 {n : Nat → Nat → Int64} : up2 (up2 n 13 (n 13)) 12 (n 12) = n := by
  funext j
  by_cases q : j = 12
  · subst q; rw [up2_s]
  · by_cases z : j = 13
    · subst z; rw [up2_n q, up2_s]
    · rw [up2_n q, up2_n z]
def tlV (s : ZS) (t : Nat) : Nat → Nat → Int64 := sval (oAL s) (oD s) t
def tlR (s : ZS) (t q z : Nat) : Int64 := rowOf (oAL s) (tlV s t) ((shd (oD s t) q).getD []) z
/-- the terms below t are told; of t the quarters below q -/
def tlD (s : ZS) (u : Nat → Int64) (t q : Nat) : Prop := (∀ i z, i < t → z < 20 → u (20 * i + z) = tlV s t i z) ∧ (1 ≤ q → ∀ z, z < 20 → u (20 * t + z) = tlR s t (min z (q - 1)) z)
theorem tlD.next {s : ZS} {u : Nat → Int64} {t : Nat} (h : tlD s u t 20) : tlD s u (t + 1) 0 := by
  refine ⟨fun i z hi hz => ?_, fun q => absurd q (by omega)⟩
  show _ = (if i = t then (fun q => rowOf (oAL s) (sval (oAL s) (oD s) t) ((shd (oD s t) q).getD []) q) else sval (oAL s) (oD s) t i : Nat → Int64) z
  by_cases q : i = t
  · subst q
    rw [if_pos rfl]
    have := h.2 (by decide) z hz
    rw [show min z (20 - 1) = z by omega] at this
    exact this
  · rw [if_neg q]; exact h.1 i z (by omega) hz
theorem tlD.skip {s : ZS} {u : Nat → Int64} {t q : Nat} (h : tlD s u t q) (h1 : 1 ≤ q) (hn : oD s t q = none) : tlD s u t (q + 1) := by
  refine ⟨h.1, fun _ z hz => ?_⟩
  rw [h.2 h1 z hz]
  by_cases y : z ≤ q - 1
  · rw [show min z (q + 1 - 1) = min z (q - 1) by omega]
  · have e : shd (oD s t) q = shd (oD s t) (q - 1) := by
      obtain ⟨p, rfl⟩ : ∃ p, q = p + 1 := ⟨q - 1, by omega⟩
      show (match oD s t (p + 1) with | some f => some f | none => shd (oD s t) p) = _
      rw [hn]; rfl
    rw [show min z (q + 1 - 1) = q by omega, show min z (q - 1) = q - 1 by omega]
    unfold tlR; rw [e]
theorem shd_some {d : Nat → Option (List Tok)} {q : Nat} {f : List Tok} (h : d q = some f) : shd d q = some f := by
  cases q with
  | zero => exact h
  | succ p =>
    show (match d (p + 1) with | some f => some f | none => shd d p) = _
    rw [h]
theorem tlD.set {s : ZS} {u u2 : Nat → Int64} {t q : Nat} {f : List Tok} (h : tlD s u t q) (hq : q < 20) (hs : oD s t q = some f) (h1 : ∀ z, q ≤ z → z < 20 → u2 (20 * t + z) = rowOf (oAL s) (tlV s t) f z) (h2 : ∀ j, (j < 20 * t + q ∨ 20 * t + 20 ≤ j) → u2 j = u j) : tlD s u2 t (q + 1) := by
  refine ⟨fun i z hi hz => by rw [h2 _ (by omega)]; exact h.1 i z hi hz, fun _ z hz => ?_⟩
  by_cases y : z < q
  · rw [h2 _ (by omega), h.2 (by omega) z hz, show min z (q + 1 - 1) = min z (q - 1) by omega]
  · rw [h1 z (by omega) hz, show min z (q + 1 - 1) = q by omega]
    unfold tlR
    rw [shd_some hs]; rfl
theorem def_some {s : ZS} {ns : Nat → Nat} {na : Nat → Nat → Nat} {ia : Nat → Nat → Int32} {la : Nat → Nat → Int64} (hs : MS s ns na ia la) (hw : WFs s) {t q : Nat} (ht : t < oN s) (hq : q < 20) : (∃ f, oD s t q = some f ∧ na 9 (20 * t + q) = f.length ∧ 1 ≤ f.length ∧ f.length ≤ 63 ∧ tkAt (na 10) (na 11) (64 * (20 * t + q)) f ∧ WL (oL s) (oL s t) f ∧ oL s t ≤ 6 ∧ gtk f ≤ t) ∨ (oD s t q = none ∧ na 9 (20 * t + q) = 0) := by
  have hn : oN s ≤ 10 := hw.2.2.1.1
  obtain ⟨a, b⟩ := hs.2.2.1.2.2 t q (by omega) hq
  have a' : na 9 (20 * t + q) = ((oD s t q).getD []).length := a
  have b' : tkAt (na 10) (na 11) (64 * (20 * t + q)) ((oD s t q).getD []) := b
  cases hd : oD s t q with
  | none => rw [hd] at a'; exact Or.inr ⟨rfl, a'⟩
  | some f =>
    rw [hd] at a' b'
    have c := hw.2.2.1.2.1 t ht
    have e := c.2.2.2 q f hd
    have l := e.1.len63 c.2.1
    exact Or.inl ⟨f, rfl, a', l.1, l.2, b', e.1, c.2.1, e.2⟩
theorem gtk_lt {T : List Tok} {n j : Nat} (h : gtk T ≤ n) (hj : j < T.length) (h6 : (T.getD j (0, 0)).1 = 6) : (T.getD j (0, 0)).2 < n := by
  have := gtk_tok hj h6
  omega

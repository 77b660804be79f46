/-! telling all terms -/
def tlV (s : ZS) (t : Nat) : Nat → Nat → Int64 := sval (oAL s) (oD s) t
def tlR (s : ZS) (t q z : Nat) : Int64 := rowOf (oAL s) (tlV s t) ((shd (oD s t) q).getD []) z
/-- the terms below t are told; of t the quarters below q -/
def tlD (s : ZS) (u : Nat → Int64) (t q : Nat) : Prop := (∀ i z, i < t → z < 20 → u (20 * i + z) = tlV s t i z) ∧ (1 ≤ q → ∀ z, z < 20 → u (20 * t + z) = tlR s t (min z (q - 1)) z)
theorem tlD.next {s : ZS} {u : Nat → Int64} {t : Nat} (h : tlD s u t 20) : tlD s u (t + 1) 0 := by
  refine ⟨fun i z hi hz => ?_, fun q => absurd q (by omega)⟩
  show _ = (if i = t then (fun q => rowOf (oAL s) (sval (oAL s) (oD s) t) ((shd (oD s t) q).getD []) q) else sval (oAL s) (oD s) t i : Nat → Int64) z
  by_cases q : i = t
  · subst q
    rw [if_pos rfl]
    have := h.2 (by decide) z hz
    rw [show min z (20 - 1) = z by omega] at this
    exact this
  · rw [if_neg q]; exact h.1 i z (by omega) hz
theorem shd_some {d : Nat → Option (List Tok)} {q : Nat} {f : List Tok} (h : d q = some f) : shd d q = some f := by
  cases q with
  | zero => exact h
  | succ p =>
    show (match d (p + 1) with | some f => some f | none => shd d p) = _
    rw [h]
theorem tlD.set {s : ZS} {u u2 : Nat → Int64} {t q : Nat} {f : List Tok} (h : tlD s u t q) (hq : q < 20) (hs : oD s t q = some f) (h1 : ∀ z, q ≤ z → z < 20 → u2 (20 * t + z) = rowOf (oAL s) (tlV s t) f z) (h2 : ∀ j, (j < 20 * t + q ∨ 20 * t + 20 ≤ j) → u2 j = u j) : tlD s u2 t (q + 1) := by
  refine ⟨fun i z hi hz => by rw [h2 _ (by omega)]; exact h.1 i z hi hz, fun _ z hz => ?_⟩
  by_cases y : z < q
  · rw [h2 _ (by omega), h.2 (by omega) z hz, show min z (q + 1 - 1) = min z (q - 1) by omega]
  · rw [h1 z (by omega) hz, show min z (q + 1 - 1) = q by omega]
    unfold tlR
    rw [shd_some hs]; rfl

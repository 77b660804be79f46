/-! joining -/
def jnC (na : Nat → Nat → Nat) (f3 f5 f6 : Nat → Nat) (o : Nat) (t1 t2 : List Tok) (k : Nat) : Prop := f3 o = t1.length + k ∧ (∀ i, i ≠ o → f3 i = na 3 i) ∧ tkAt f5 f6 (64 * o) (t1 ++ t2.take k) ∧ ∀ j, (j < 64 * o ∨ 64 * o + 64 ≤ j) → f5 j = na 5 j ∧ f6 j = na 6 j
theorem take_snoc {t : List Tok} {k : Nat} (h : k < t.length) : t.take (k + 1) = t.take k ++ [t.getD k (0, 0)] := by
  rw [List.take_add_one, List.getElem?_eq_getElem h, List.getD_eq_getElem?_getD, List.getElem?_eq_getElem h]; rfl
theorem jnC.step {na : Nat → Nat → Nat} {f3 f5 f6 : Nat → Nat} {o p k : Nat} {t1 t2 : List Tok} (h : jnC na f3 f5 f6 o t1 t2 k) (hk : k < t2.length) (hp : p = o + 1) (ht : tkAt (na 5) (na 6) (64 * p) t2) (hl : t1.length + t2.length ≤ 63) : jnC na (upN f3 o (f3 o + 1)) (upN f5 (64 * o + f3 o) (f5 (64 * p + k))) (upN f6 (64 * o + f3 o) (f6 (64 * p + k))) o t1 t2 (k + 1) := by
  obtain ⟨a, b, c, d⟩ := h
  refine ⟨by rw [upN_s, a]; omega, fun i hi => by rw [upN_n hi]; exact b i hi, ?_, fun j hj => ?_⟩
  · have e := d (64 * p + k) (by omega)
    have g := ht k hk
    rw [e.1, e.2, g.1, g.2, take_snoc hk, ← List.append_assoc]
    have l : f3 o = (t1 ++ t2.take k).length := by rw [a, List.length_append, List.length_take]; omega
    rw [l]
    exact c.snoc
  · rw [upN_n (by omega), upN_n (by omega)]; exact d j hj

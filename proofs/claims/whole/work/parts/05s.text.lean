/-! the model's text -/
def txA (f : Nat → Nat) (T : List Nat) : Prop := ∀ j, j < T.length → f j = T.getD j 0
def insL (T : List Nat) (p c : Nat) : List Nat := T.take p ++ [c] ++ T.drop p
theorem insL_len {T : List Nat} {p c : Nat} (h : p ≤ T.length) : (insL T p c).length = T.length + 1 := by
  unfold insL
  simp only [List.length_append, List.length_take, List.length_drop, List.length_cons, List.length_nil]; omega
theorem asc_get {T : List Nat} (h : asc T) {j : Nat} (hj : j < T.length) : T.getD j 0 < 128 := by
  rw [List.getD_eq_getElem?_getD, List.getElem?_eq_getElem hj]; exact h _ (List.getElem_mem hj)
theorem nar_chr {c : Nat} (h : c < 128) : vp_nar .char (nI c) = nI c := by
  have k : ∀ c, c < 128 → vp_nar .char (nI c) = nI c := by decide +kernel
  exact k c h
theorem insL_get {T : List Nat} {p c j : Nat} (h : p ≤ T.length) : (insL T p c).getD j 0 = if j < p then T.getD j 0 else if j = p then c else T.getD (j - 1) 0 := by
  unfold insL
  rw [List.append_assoc, List.getD_eq_getElem?_getD, List.getD_eq_getElem?_getD, List.getD_eq_getElem?_getD]
  have l : (T.take p).length = p := by rw [List.length_take]; omega
  by_cases q : j < p
  · rw [if_pos q, List.getElem?_append_left (by omega), List.getElem?_take, if_pos q]
  · rw [if_neg q, List.getElem?_append_right (by omega), l]
    by_cases z : j = p
    · subst z; rw [if_pos rfl]; simp
    · rw [if_neg z]
      obtain ⟨k, rfl⟩ : ∃ k, j = p + 1 + k := ⟨j - p - 1, by omega⟩
      rw [show p + 1 + k - p = k + 1 by omega]
      show ((T.drop p)[k]?).getD 0 = _
      rw [List.getElem?_drop, show p + 1 + k - 1 = p + k by omega]
theorem txA_ins {f : Nat → Nat} {T : List Nat} {p c : Nat} (h : p ≤ T.length) (h1 : ∀ j, j ≤ p → j < T.length → f j = T.getD j 0) (h2 : ∀ j, p < j → j ≤ T.length → f j = T.getD (j - 1) 0) : txA (upN f p c) (insL T p c) := fun j hj => by
  rw [insL_len h] at hj
  rw [insL_get h]
  by_cases q : j < p
  · rw [if_pos q, upN_n (by omega)]; exact h1 j (by omega) (by omega)
  · rw [if_neg q]
    by_cases z : j = p
    · subst z; rw [if_pos rfl, upN_s]
    · rw [if_neg z, upN_n z]; exact h2 j (by omega) (by omega)
theorem insL_asc {T : List Nat} {p c : Nat} (h : asc T) (hc : c < 128) : asc (insL T p c) := by
  unfold insL
  exact asc_app (asc_app (fun x hx => h x (List.mem_of_mem_take hx)) (fun x hx => by rw [List.mem_singleton] at hx; omega)) (fun x hx => h x (List.mem_of_mem_drop hx))

/-! the model's text -/
theorem asc_get {T : List Nat} (h : asc T) {j : Nat} (hj : j < T.length) : T.getD j 0 < 128 := by
  rw [List.getD_eq_getElem?_getD, List.getElem?_eq_getElem hj]; exact h _ (List.getElem_mem hj)

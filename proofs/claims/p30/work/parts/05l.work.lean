theorem syr_stop_or {r : Nat → Int64} {q a : Nat} (h : a = 4 ∨ (q < a ∧ a ≤ 4)) : syr r q 4 = syr r q a := by
  rcases h with rfl | h
  · rfl
  · exact syr_stop h.1 h.2

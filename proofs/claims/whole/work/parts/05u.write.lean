/-! writing a formula: the texts of the stack, joined from the bottom -/
def txJ : List (List Nat) → List Nat
  | [] => []
  | t :: s => txJ s ++ t
def stsAt (f : Nat → Nat) : List (List Nat) → Prop
  | [] => True
  | _ :: s => f s.length = (txJ s).length ∧ stsAt f s
theorem stsAt.frame {f g : Nat → Nat} {s : List (List Nat)} (h : stsAt f s) (hf : ∀ j, j < s.length → g j = f j) : stsAt g s := by
  induction s with
  | nil => trivial
  | cons r s ih =>
    have hl : (r :: s).length = s.length + 1 := rfl
    rw [hl] at hf
    exact ⟨by rw [hf _ (by omega)]; exact h.1, ih h.2 (fun j hj => hf j (by omega))⟩
theorem insS_mid {X a w : List Nat} : insS (X ++ a) X.length w = X ++ (w ++ a) := by
  unfold insS
  rw [List.take_append_of_le_length (Nat.le_refl _), List.take_of_length_le (Nat.le_refl _), List.drop_append_of_le_length (Nat.le_refl _), List.drop_of_length_le (Nat.le_refl _)]
  simp [List.append_assoc]
theorem insS_fin {T w : List Nat} : insS T T.length w = T ++ w := by
  unfold insS
  rw [List.take_of_length_le (Nat.le_refl _), List.drop_of_length_le (Nat.le_refl _), List.append_nil]
theorem stx_len {k n : Nat} {s : List (List Nat)} : (stx k n s).length = if 4 ≤ k ∧ k ≤ 6 then s.length + 1 else if 7 ≤ k ∧ k ≤ 8 then s.length - 1 + 1 else s.length - 1 - 1 + 1 := by
  unfold stx
  by_cases h4 : k = 4
  · rw [if_pos h4, if_pos (by omega)]; rfl
  · by_cases h5 : k = 5
    · rw [if_neg h4, if_pos h5, if_pos (by omega)]; rfl
    · by_cases h6 : k = 6
      · rw [if_neg h4, if_neg h5, if_pos h6, if_pos (by omega)]; rfl
      · by_cases h7 : k = 7
        · rw [if_neg h4, if_neg h5, if_neg h6, if_pos h7, if_neg (by omega), if_pos (by omega)]; simp
        · by_cases h8 : k = 8
          · rw [if_neg h4, if_neg h5, if_neg h6, if_neg h7, if_pos h8, if_neg (by omega), if_pos (by omega)]; simp
          · rw [if_neg h4, if_neg h5, if_neg h6, if_neg h7, if_neg h8, if_neg (by omega), if_neg (by omega)]; simp

/-! writing a formula: the texts of the stack, joined from the bottom -/
def txJ : List (List Nat) → List Nat
  | [] => []
  | t :: s => txJ s ++ t
def stsAt (f : Nat → Nat) : List (List Nat) → Prop
  | [] => True
  | _ :: s => f s.length = (txJ s).length ∧ stsAt f s
theorem stsAt.frame {f g : Nat → Nat} {s : List (List Nat)} (h : stsAt f s) (hf : ∀ j, j < s.length → g j = f j) : stsAt g s := by
  induction s with
  | nil => trivial
  | cons r s ih =>
    have hl : (r :: s).length = s.length + 1 := rfl
    rw [hl] at hf
    exact ⟨by rw [hf _ (by omega)]; exact h.1, ih h.2 (fun j hj => hf j (by omega))⟩
theorem insS_mid {X a w : List Nat} : insS (X ++ a) X.length w = X ++ (w ++ a) := by
  unfold insS
  rw [List.take_append_of_le_length (Nat.le_refl _), List.take_of_length_le (Nat.le_refl _), List.drop_append_of_le_length (Nat.le_refl _), List.drop_of_length_le (Nat.le_refl _)]
  simp [List.append_assoc]
theorem insS_fin {T w : List Nat} : insS T T.length w = T ++ w := by
  unfold insS
  rw [List.take_of_length_le (Nat.le_refl _), List.drop_of_length_le (Nat.le_refl _), List.append_nil]
theorem stx_len {k n : Nat} {s : List (List Nat)} : (stx k n s).length = if 4 ≤ k ∧ k ≤ 6 then s.length + 1 else if 7 ≤ k ∧ k ≤ 8 then s.length - 1 + 1 else s.length - 1 - 1 + 1 := by
  unfold stx
  by_cases h4 : k = 4
  · rw [if_pos h4, if_pos (by omega)]; rfl
  · by_cases h5 : k = 5
    · rw [if_neg h4, if_pos h5, if_pos (by omega)]; rfl
    · by_cases h6 : k = 6
      · rw [if_neg h4, if_neg h5, if_pos h6, if_pos (by omega)]; rfl
      · by_cases h7 : k = 7
        · rw [if_neg h4, if_neg h5, if_neg h6, if_pos h7, if_neg (by omega), if_pos (by omega)]; simp
        · by_cases h8 : k = 8
          · rw [if_neg h4, if_neg h5, if_neg h6, if_neg h7, if_pos h8, if_neg (by omega), if_pos (by omega)]; simp
          · rw [if_neg h4, if_neg h5, if_neg h6, if_neg h7, if_neg h8, if_neg (by omega), if_neg (by omega)]; simp
def tOK (m : Nat) : List Tok → List (List Nat) → Prop
  | [], s => (txJ s).length ≤ m
  | t :: ts, s => (txJ s).length ≤ m ∧ tOK m ts (stx t.1 t.2 s)
theorem WL.tok2 {tl : Nat → Nat} {n m : Nat} {t ts : List Tok} {s : List (List Nat)} (h : WL tl n t) (hd : (txJ s).length + 7 * 2 ^ n ≤ m) (hr : tOK m ts (txtOf t :: s)) : tOK m (t ++ ts) s := by
  induction n generalizing t ts s with
  | zero => exact absurd h id
  | succ n ih =>
    have hp : 7 * 2 ^ (n + 1) = 7 * 2 ^ n + 7 * 2 ^ n := by rw [Nat.pow_succ]; omega
    rcases h with ⟨k, h1, rfl⟩ | ⟨k, h1, rfl⟩ | ⟨k, h1, h2, h3, rfl⟩ | ⟨k, a, b, h1, h2, h3, rfl⟩ | ⟨p, a, h1, h2, rfl⟩ | ⟨a, h1, rfl⟩
    · exact ⟨by omega, hr⟩
    · exact ⟨by omega, hr⟩
    · exact ⟨by omega, hr⟩
    · have la := h2.txl
      have lb := h3.txl
      rw [List.append_assoc, List.append_assoc]
      refine ih h2 (by omega) (ih h3 ?_ ?_)
      · show (txJ s ++ txtOf a).length + _ ≤ m
        rw [List.length_append]; omega
      · refine ⟨?_, ?_⟩
        · show ((txJ s ++ txtOf a) ++ txtOf b).length ≤ m
          rw [List.length_append, List.length_append]; omega
        · have e : stx k 0 (txtOf b :: txtOf a :: s) = txtOf (a ++ b ++ [(k, 0)]) :: s := by
            rw [txt_join h2 h3 h1]
            simp only [stx, if_neg (show ¬ k = 4 by omega), if_neg (show ¬ k = 5 by omega), if_neg (show ¬ k = 6 by omega), if_neg (show ¬ k = 7 by omega), if_neg (show ¬ k = 8 by omega), List.tail_cons, List.headD_cons]
          show tOK m ts (stx k 0 (txtOf b :: txtOf a :: s))
          rw [e]; exact hr
    · have la := h2.txl
      rw [List.append_assoc]
      refine ih h2 (by omega) ⟨?_, ?_⟩
      · show (txJ s ++ txtOf a).length ≤ m
        rw [List.length_append]; omega
      · have e : stx 7 p (txtOf a :: s) = txtOf (a ++ [(7, p)]) :: s := by rw [txt_share h2]; rfl
        show tOK m ts (stx 7 p (txtOf a :: s))
        rw [e]; exact hr
    · have la := h1.txl
      rw [List.append_assoc]
      refine ih h1 (by omega) ⟨?_, ?_⟩
      · show (txJ s ++ txtOf a).length ≤ m
        rw [List.length_append]; omega
      · have e : stx 8 0 (txtOf a :: s) = txtOf (a ++ [(8, 0)]) :: s := by rw [txt_year h1]; rfl
        show tOK m ts (stx 8 0 (txtOf a :: s))
        rw [e]; exact hr
theorem tok_s {m k : Nat} {T : List Tok} {s : List (List Nat)} (h : tOK m (T.drop k) s) (hk : k < T.length) : (txJ s).length ≤ m ∧ tOK m (T.drop (k + 1)) (stx (T.getD k (0, 0)).1 (T.getD k (0, 0)).2 s) := by
  rw [drop_cons hk] at h; exact h

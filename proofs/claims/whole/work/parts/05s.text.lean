/-! the model's text -/
def txA (f : Nat → Nat) (T : List Nat) : Prop := ∀ j, j < T.length → f j = T.getD j 0
def insL (T : List Nat) (p c : Nat) : List Nat := T.take p ++ [c] ++ T.drop p
theorem insL_len {T : List Nat} {p c : Nat} (h : p ≤ T.length) : (insL T p c).length = T.length + 1 := by
  unfold insL
  simp only [List.length_append, List.length_take, List.length_drop, List.length_cons, List.length_nil]; omega
theorem asc_get {T : List Nat} (h : asc T) {j : Nat} (hj : j < T.length) : T.getD j 0 < 128 := by
  rw [List.getD_eq_getElem?_getD, List.getElem?_eq_getElem hj]; exact h _ (List.getElem_mem hj)
theorem nar_chr {c : Nat} (h : c < 128) : vp_nar .char (nI c) = nI c := by
  have k : ∀ c, c < 128 → vp_nar .char (nI c) = nI c := by decide +kernel
  exact k c h
theorem insL_get {T : List Nat} {p c j : Nat} (h : p ≤ T.length) : (insL T p c).getD j 0 = if j < p then T.getD j 0 else if j = p then c else T.getD (j - 1) 0 := by
  unfold insL
  rw [List.append_assoc, List.getD_eq_getElem?_getD, List.getD_eq_getElem?_getD, List.getD_eq_getElem?_getD]
  have l : (T.take p).length = p := by rw [List.length_take]; omega
  by_cases q : j < p
  · rw [if_pos q, List.getElem?_append_left (by omega), List.getElem?_take, if_pos q]
  · rw [if_neg q, List.getElem?_append_right (by omega), l]
    by_cases z : j = p
    · subst z; rw [if_pos rfl]; simp
    · rw [if_neg z]
      obtain ⟨k, rfl⟩ : ∃ k, j = p + 1 + k := ⟨j - p - 1, by omega⟩
      rw [show p + 1 + k - p = k + 1 by omega]
      show ((T.drop p)[k]?).getD 0 = _
      rw [List.getElem?_drop, show p + 1 + k - 1 = p + k by omega]
theorem txA_ins {f : Nat → Nat} {T : List Nat} {p c : Nat} (h : p ≤ T.length) (h1 : ∀ j, j ≤ p → j < T.length → f j = T.getD j 0) (h2 : ∀ j, p < j → j ≤ T.length → f j = T.getD (j - 1) 0) : txA (upN f p c) (insL T p c) := fun j hj => by
  rw [insL_len h] at hj
  rw [insL_get h]
  by_cases q : j < p
  · rw [if_pos q, upN_n (by omega)]; exact h1 j (by omega) (by omega)
  · rw [if_neg q]
    by_cases z : j = p
    · subst z; rw [if_pos rfl, upN_s]
    · rw [if_neg z, upN_n z]; exact h2 j (by omega) (by omega)
theorem insL_asc {T : List Nat} {p c : Nat} (h : asc T) (hc : c < 128) : asc (insL T p c) := by
  unfold insL
  exact asc_app (asc_app (fun x hx => h x (List.mem_of_mem_take hx)) (fun x hx => by rw [List.mem_singleton] at hx; omega)) (fun x hx => h x (List.mem_of_mem_drop hx))
def insS (T : List Nat) (p : Nat) (w : List Nat) : List Nat := T.take p ++ w ++ T.drop p
theorem insS_1 {T : List Nat} {p c : Nat} : insL T p c = insS T p [c] := rfl
theorem insS_0 {T : List Nat} {p : Nat} : insS T p [] = T := by
  unfold insS; rw [List.append_nil, List.take_append_drop]
theorem insS_len {T w : List Nat} {p : Nat} (h : p ≤ T.length) : (insS T p w).length = T.length + w.length := by
  unfold insS
  simp only [List.length_append, List.length_take, List.length_drop]; omega
theorem insS_end {T w : List Nat} {p c : Nat} (h : p ≤ T.length) : insL (insS T p w) (p + w.length) c = insS T p (w ++ [c]) := by
  unfold insL insS
  have l : (T.take p).length = p := by rw [List.length_take]; omega
  have l2 : (T.take p ++ w).length = p + w.length := by rw [List.length_append, l]
  rw [List.take_append_of_le_length (by omega), List.take_of_length_le (by omega), List.drop_append_of_le_length (by omega), List.drop_of_length_le (by omega)]
  simp [List.append_assoc]
theorem insS_at {T w : List Nat} {p c : Nat} (h : p ≤ T.length) : insL (insS T p w) p c = insS T p (c :: w) := by
  unfold insL insS
  have l : (T.take p).length = p := by rw [List.length_take]; omega
  rw [show T.take p ++ w ++ T.drop p = T.take p ++ (w ++ T.drop p) from List.append_assoc _ _ _]
  rw [List.take_append_of_le_length (by omega), List.take_of_length_le (by omega), List.drop_append_of_le_length (by omega), List.drop_of_length_le (by omega)]
  simp [List.append_assoc]
theorem insS_asc {T w : List Nat} {p : Nat} (h : asc T) (hc : asc w) : asc (insS T p w) := by
  unfold insS
  exact asc_app (asc_app (fun x hx => h x (List.mem_of_mem_take hx)) hc) (fun x hx => h x (List.mem_of_mem_drop hx))
theorem upN_upN {f : Nat → Nat} {k a b : Nat} : upN (upN f k a) k b = upN f k b := by
  funext j
  by_cases q : j = k
  · subst q; rw [upN_s, upN_s]
  · rw [upN_n q, upN_n q, upN_n q]
theorem insL_at {T P Q : List Nat} {p c : Nat} (hT : T = P ++ Q) (hp : p = P.length) : insL T p c = P ++ (c :: Q) := by
  subst hT; subst hp
  unfold insL
  rw [List.take_append_of_le_length (Nat.le_refl _), List.take_of_length_le (Nat.le_refl _), List.drop_append_of_le_length (Nat.le_refl _), List.drop_of_length_le (Nat.le_refl _)]
  simp [List.append_assoc]
def dsuf (v k : Nat) : List Nat := (dgl v).drop (sb_dg v - k)
theorem dsuf_0 (v : Nat) : dsuf v 0 = [] := by
  unfold dsuf
  exact List.drop_of_length_le (by rw [dgl_len]; omega)
theorem dsuf_all (v : Nat) : dsuf v (sb_dg v) = dgl v := by
  unfold dsuf
  rw [Nat.sub_self, List.drop_zero]
theorem dsuf_s {v k : Nat} (h : k < sb_dg v) : dsuf v (k + 1) = (48 + v / 10 ^ k % 10) :: dsuf v k := by
  unfold dsuf
  have l : sb_dg v - (k + 1) < (dgl v).length := by rw [dgl_len]; omega
  rw [List.drop_eq_getElem_cons l, show sb_dg v - (k + 1) + 1 = sb_dg v - k by omega]
  congr 1
  have e := dgl_get (v := v) (j := sb_dg v - (k + 1)) (by omega)
  rw [List.getD_eq_getElem?_getD, List.getElem?_eq_getElem l] at e
  have e' : (dgl v)[sb_dg v - (k + 1)] = sb_dec v (sb_dg v - (k + 1)) := e
  rw [e']
  unfold sb_dec
  rw [show sb_dg v - 1 - (sb_dg v - (k + 1)) = k by omega]
theorem dsuf_len {v k : Nat} (h : k ≤ sb_dg v) : (dsuf v k).length = k := by
  unfold dsuf; rw [List.length_drop, dgl_len]; omega
theorem dsuf_asc (v k : Nat) : asc (dsuf v k) := fun x hx => dgl_asc v x (List.mem_of_mem_drop hx)
theorem dg_pos {v k : Nat} (hv : v ≤ 1000000) (hk : k < 7) : 0 < v / 10 ^ (k + 1) ↔ k + 1 < sb_dg v := by
  have : k = 0 ∨ k = 1 ∨ k = 2 ∨ k = 3 ∨ k = 4 ∨ k = 5 ∨ k = 6 := by omega
  rcases this with rfl | rfl | rfl | rfl | rfl | rfl | rfl <;> (simp only [Nat.reduceAdd, Nat.reducePow]; unfold sb_dg; repeat' split) <;> omega
theorem i2c_asc {c : Nat} (h : c < 128) : ((nI c).toUInt32 % 65536).toInt32 = nI c := by
  have k : ∀ c, c < 128 → ((nI c).toUInt32 % 65536).toInt32 = nI c := by decide +kernel
  exact k c h
theorem no_div {a : Nat} (h : a < 2 ^ 31) : nI a / 10 = nI (a / 10) := pk_div (d := 10) h (by decide) (by decide)
theorem no_rem {a : Nat} (h : a < 2 ^ 31) : nI a - nI a / 10 * 10 = nI (a % 10) := pk_rem (d := 10) h (by decide) (by decide)
theorem upN_id {f : Nat → Nat} {k : Nat} : upN f k (f k + 0) = f := by
  funext j
  by_cases q : j = k
  · subst q; rw [upN_s]; rfl
  · rw [upN_n q]

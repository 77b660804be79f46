set_option maxHeartbeats 4000000 in
set_option maxRecDepth 100000 in
theorem c_X4_isWithin (l : Launch) (hl : l.stackTraces = false) (G : zG) (p0 p1 p2 : Int32) (h : zH)  : zMet eI l yX4_isWithin cX4_isWithin 3 (some .boolean) 12 0 0 G [.int p0, .int p1, .int p2] h (fun r h2 => r = zb (p1 ≤ p0 ∧ p0 ≤ p2) ∧ h2 = h) := by
  refine con_of hl RX4 rfl (by decide +kernel) [(0, .int p0), (1, .int p1), (2, .int p2)] rfl (Nat.le_of_ble_eq_true rfl) ?_
  intro p e s m args below meth c C hr hin Q hQ
  refine v_iload_n C 0 rfl dX4_isWithin_0 rfl ?_
  refine v_iload_n C 1 rfl dX4_isWithin_1 rfl ?_
  refine v_icmp_lt (tgt := 14) C dX4_isWithin_2 (by decide) (fun c1 => ?_) (fun c1 => ?_)
  · refine v_iconst (v := 0) C dX4_isWithin_14 (by decide) ?_
    exact v_iret C hQ hr rfl (Nat.le_of_ble_eq_true rfl) (Nat.le_of_ble_eq_true rfl) dX4_isWithin_15 ⟨(zb_f (by clear C hQ hr; simp only [← Int32.not_lt] at *; simp_all)).symm, rfl⟩
  · refine v_iload_n C 0 rfl dX4_isWithin_5 rfl ?_
    refine v_iload_n C 2 rfl dX4_isWithin_6 rfl ?_
    refine v_icmp_gt (tgt := 14) C dX4_isWithin_7 (by decide) (fun c2 => ?_) (fun c2 => ?_)
    · refine v_iconst (v := 0) C dX4_isWithin_14 (by decide) ?_
      exact v_iret C hQ hr rfl (Nat.le_of_ble_eq_true rfl) (Nat.le_of_ble_eq_true rfl) dX4_isWithin_15 ⟨(zb_f (by clear C hQ hr; simp only [← Int32.not_lt] at *; simp_all)).symm, rfl⟩
    · refine v_iconst (v := 1) C dX4_isWithin_10 (by decide) ?_
      refine v_goto (tgt := 15) C dX4_isWithin_11 (by decide) ?_
      exact v_iret C hQ hr rfl (Nat.le_of_ble_eq_true rfl) (Nat.le_of_ble_eq_true rfl) dX4_isWithin_15 ⟨(zb_t (by clear C hQ hr; simp only [← Int32.not_lt] at *; simp_all)).symm, rfl⟩
set_option maxHeartbeats 4000000 in
set_option maxRecDepth 100000 in
theorem c_X4_isAccount (l : Launch) (hl : l.stackTraces = false) (G : zG) (p0 : Int32) (h : zH)  : zMet eI l yX4_isAccount cX4_isAccount 1 (some .boolean) 12 0 0 G [.int p0] h (fun r h2 => r = zb (0 ≤ p0 ∧ p0 < 6) ∧ h2 = h) := by
  refine con_of hl RX4 rfl (by decide +kernel) [(0, .int p0)] rfl (Nat.le_of_ble_eq_true rfl) ?_
  intro p e s m args below meth c C hr hin Q hQ
  refine v_iload_n C 0 rfl dX4_isAccount_0 rfl ?_
  refine v_if_lt (tgt := 14) C dX4_isAccount_1 (by decide) (fun c1 => ?_) (fun c1 => ?_)
  · refine v_iconst (v := 0) C dX4_isAccount_14 (by decide) ?_
    exact v_iret C hQ hr rfl (Nat.le_of_ble_eq_true rfl) (Nat.le_of_ble_eq_true rfl) dX4_isAccount_15 ⟨(zb_f (by clear C hQ hr; simp only [← Int32.not_lt] at *; simp_all)).symm, rfl⟩
  · refine v_iload_n C 0 rfl dX4_isAccount_4 rfl ?_
    refine v_bipush (v := 6) C dX4_isAccount_5 (by decide) ?_
    refine v_icmp_ge (tgt := 14) C dX4_isAccount_7 (by decide) (fun c2 => ?_) (fun c2 => ?_)
    · refine v_iconst (v := 0) C dX4_isAccount_14 (by decide) ?_
      exact v_iret C hQ hr rfl (Nat.le_of_ble_eq_true rfl) (Nat.le_of_ble_eq_true rfl) dX4_isAccount_15 ⟨(zb_f (by clear C hQ hr; simp only [← Int32.not_lt] at *; simp_all)).symm, rfl⟩
    · refine v_iconst (v := 1) C dX4_isAccount_10 (by decide) ?_
      refine v_goto (tgt := 15) C dX4_isAccount_11 (by decide) ?_
      exact v_iret C hQ hr rfl (Nat.le_of_ble_eq_true rfl) (Nat.le_of_ble_eq_true rfl) dX4_isAccount_15 ⟨(zb_t (by clear C hQ hr; simp only [← Int32.not_lt] at *; simp_all)).symm, rfl⟩
set_option maxHeartbeats 4000000 in
set_option maxRecDepth 100000 in
theorem c_X4_isQuarter (l : Launch) (hl : l.stackTraces = false) (G : zG) (p0 : Int32) (h : zH)  : zMet eI l yX4_isQuarter cX4_isQuarter 1 (some .boolean) 12 0 0 G [.int p0] h (fun r h2 => r = zb (0 ≤ p0 ∧ p0 < 20) ∧ h2 = h) := by
  refine con_of hl RX4 rfl (by decide +kernel) [(0, .int p0)] rfl (Nat.le_of_ble_eq_true rfl) ?_
  intro p e s m args below meth c C hr hin Q hQ
  refine v_iload_n C 0 rfl dX4_isQuarter_0 rfl ?_
  refine v_if_lt (tgt := 14) C dX4_isQuarter_1 (by decide) (fun c1 => ?_) (fun c1 => ?_)
  · refine v_iconst (v := 0) C dX4_isQuarter_14 (by decide) ?_
    exact v_iret C hQ hr rfl (Nat.le_of_ble_eq_true rfl) (Nat.le_of_ble_eq_true rfl) dX4_isQuarter_15 ⟨(zb_f (by clear C hQ hr; simp only [← Int32.not_lt] at *; simp_all)).symm, rfl⟩
  · refine v_iload_n C 0 rfl dX4_isQuarter_4 rfl ?_
    refine v_bipush (v := 20) C dX4_isQuarter_5 (by decide) ?_
    refine v_icmp_ge (tgt := 14) C dX4_isQuarter_7 (by decide) (fun c2 => ?_) (fun c2 => ?_)
    · refine v_iconst (v := 0) C dX4_isQuarter_14 (by decide) ?_
      exact v_iret C hQ hr rfl (Nat.le_of_ble_eq_true rfl) (Nat.le_of_ble_eq_true rfl) dX4_isQuarter_15 ⟨(zb_f (by clear C hQ hr; simp only [← Int32.not_lt] at *; simp_all)).symm, rfl⟩
    · refine v_iconst (v := 1) C dX4_isQuarter_10 (by decide) ?_
      refine v_goto (tgt := 15) C dX4_isQuarter_11 (by decide) ?_
      exact v_iret C hQ hr rfl (Nat.le_of_ble_eq_true rfl) (Nat.le_of_ble_eq_true rfl) dX4_isQuarter_15 ⟨(zb_t (by clear C hQ hr; simp only [← Int32.not_lt] at *; simp_all)).symm, rfl⟩

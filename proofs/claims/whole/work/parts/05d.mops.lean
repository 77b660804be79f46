set_option maxHeartbeats 4000000 in
set_option maxRecDepth 100000 in
theorem c_X5_amount (l : Launch) (hl : l.stackTraces = false) (G : zG) (m : Nat) (ad : Nat → Nat) (ns : Nat → Nat) (na : Nat → Nat → Nat) (ia : Nat → Nat → Int32) (la : Nat → Nat → Int64) (h0 : zH) (s : ZS) (a q v : Int32) (h : zH) (hm : MR G h0 h m ad ns na ia la) (hs : MS s ns na ia la) (hw : WFs s)  : zMet eI l yX5_amount cX5_amount 6 (some .int) 14 0 0 G [.ref m, .int a, .int q, .int v] h (fun r h2 => ((kAmount a q v) = 0 ∧ MO G h0 h2 m ad (nAmount s a q v) 0 ∧ r = oA s (cl a) (cl q)) ∨ ((kAmount a q v) ≠ 0 ∧ MO G h0 h2 m ad s (kAmount a q v))) := by
  refine con_of hl RX5 rfl (by decide +kernel) [(0, .ref m), (1, .int a), (2, .int q), (3, .int v)] rfl (Nat.le_of_ble_eq_true rfl) ?_
  intro zp ze zs zm zargs zbelow zmeth zc C hr hin Q hQ
  refine v_iload_n C 1 rfl dX5_amount_0 rfl ?_
  refine v_callS (rest := []) C (c_X5_isAccount l hl G  a h ) S_X5_96 rfl rfl (Nat.le_of_ble_eq_true rfl) ⟨Nat.le_of_ble_eq_true rfl, Nat.le_of_ble_eq_true rfl⟩ ⟨Nat.le_of_ble_eq_true rfl, Nat.le_of_ble_eq_true rfl⟩ dX5_amount_1 (fun i1 h1 q1 => ?_)
  obtain ⟨e1, rfl⟩ := q1
  by_cases c1 : inN a 6
  · rw [zb_t c1] at e1; subst e1
    obtain ⟨j2, hj2, en2⟩ := inN.nat c1 (by omega)
    subst en2
    refine v_if_eq (tgt := 18) C dX5_amount_4 (by decide) (fun c3 => absurd c3 (by decide)) (fun c3 => ?_)
    refine v_iload_n C 2 rfl dX5_amount_7 rfl ?_
    refine v_callS (rest := []) C (c_X5_isQuarter l hl G  q h ) S_X5_100 rfl rfl (Nat.le_of_ble_eq_true rfl) ⟨Nat.le_of_ble_eq_true rfl, Nat.le_of_ble_eq_true rfl⟩ ⟨Nat.le_of_ble_eq_true rfl, Nat.le_of_ble_eq_true rfl⟩ dX5_amount_8 (fun i4 h4 q4 => ?_)
    obtain ⟨e4, rfl⟩ := q4
    by_cases c4 : inN q 20
    · rw [zb_t c4] at e4; subst e4
      obtain ⟨j5, hj5, en5⟩ := inN.nat c4 (by omega)
      subst en5
      refine v_if_eq (tgt := 18) C dX5_amount_11 (by decide) (fun c6 => absurd c6 (by decide)) (fun c6 => ?_)
      refine v_iconst (v := 1) C dX5_amount_14 (by decide) ?_
      refine v_goto (tgt := 19) C dX5_amount_15 (by decide) ?_
      refine v_istore C [(4, .int 1), (0, .ref m), (1, .int (nI j2)), (2, .int (nI j5)), (3, .int v)] rfl (by decide) dX5_amount_19 ?_
      refine v_aload_n C 1 rfl dX5_amount_21 rfl ?_
      refine v_iload C 0 rfl dX5_amount_22 ?_
      refine v_if_ne (tgt := 31) C dX5_amount_24 (by decide) (fun c7 => ?_) (fun c7 => absurd c7 (by decide))
      refine v_iload_n C 4 rfl dX5_amount_31 rfl ?_
      refine v_ldc C KO_X5_103 dX5_amount_32 ?_
      refine v_ldc C KO_X5_104 dX5_amount_34 ?_
      refine v_callS (rest := [.ref m]) C (c_X5_isIn l hl G  v (-1000000) 1000000 h ) S_X5_89 rfl rfl (Nat.le_of_ble_eq_true rfl) ⟨Nat.le_of_ble_eq_true rfl, Nat.le_of_ble_eq_true rfl⟩ ⟨Nat.le_of_ble_eq_true rfl, Nat.le_of_ble_eq_true rfl⟩ dX5_amount_36 (fun i8 h8 q8 => ?_)
      obtain ⟨e8, rfl⟩ := q8
      by_cases c8 : wth v (-1000000) 1000000
      · rw [zb_t c8] at e8; subst e8
        refine v_if_eq (tgt := 46) C dX5_amount_39 (by decide) (fun c9 => absurd c9 (by decide)) (fun c9 => ?_)
        refine v_iconst (v := 0) C dX5_amount_42 (by decide) ?_
        refine v_goto (tgt := 47) C dX5_amount_43 (by decide) ?_
        refine v_put C (mC ad (upN ns 0 0)) P_X5_85 hm.1 rfl rfl rfl (Nat.le_of_ble_eq_true rfl) dX5_amount_47 (v_nw (fun h10 eh10 => ?_))
        have hm10 := hm.putS 0 0 rfl eh10
        refine v_aload_n C 1 rfl dX5_amount_50 rfl ?_
        refine v_get (v := .int (nI 0)) C F_X5_85 hm10.1 rfl dX5_amount_51 ?_
        refine v_if_le (tgt := 59) C dX5_amount_54 (by decide) (fun c11 => ?_) (fun c11 => absurd c11 (by decide))
        refine v_aload_n C 1 rfl dX5_amount_59 rfl ?_
        refine v_get (v := .ref (ad 1)) C F_X5_7 hm10.1 rfl dX5_amount_60 ?_
        refine v_bipush (v := 20) C dX5_amount_63 (by decide) ?_
        refine v_iload_n C 2 rfl dX5_amount_65 rfl ?_
        refine v_imul C dX5_amount_66 (v_eqi (nI_kml j2 20 (by decide)) ?_)
        refine v_iload_n C 3 rfl dX5_amount_67 rfl ?_
        refine v_iadd C dX5_amount_68 (v_eqi (nI_add (20 * j2) j5) ?_)
        refine v_iald C (hm10.2.2.1 1 rfl) (vpin (show ((20 * j2) + j5) < 120 by omega) (by decide)) dX5_amount_69 (v_eqi (y := (ia 1) ((20 * j2) + j5)) (congrArg (ia 1) (nI_clamp (show ((20 * j2) + j5) < 2 ^ 31 by omega))) ?_)
        refine v_istore C [(5, .int ((ia 1) ((20 * j2) + j5))), (4, .int 1), (0, .ref m), (1, .int (nI j2)), (2, .int (nI j5)), (3, .int v)] rfl (by decide) dX5_amount_70 ?_
        refine v_aload_n C 2 rfl dX5_amount_72 rfl ?_
        refine v_get (v := .ref (ad 1)) C F_X5_7 hm10.1 rfl dX5_amount_73 ?_
        refine v_bipush (v := 20) C dX5_amount_76 (by decide) ?_
        refine v_iload_n C 3 rfl dX5_amount_78 rfl ?_
        refine v_imul C dX5_amount_79 (v_eqi (nI_kml j2 20 (by decide)) ?_)
        refine v_iload_n C 4 rfl dX5_amount_80 rfl ?_
        refine v_iadd C dX5_amount_81 (v_eqi (nI_add (20 * j2) j5) ?_)
        refine v_iload_n C 5 rfl dX5_amount_82 rfl ?_
        refine v_iast C (hm10.2.2.1 1 rfl) (vpin (show ((20 * j2) + j5) < 120 by omega) (by decide)) dX5_amount_83 (v_nw (fun h16 eh16 => ?_))
        have hm16 := hm10.putI2 (k := 1) rfl (g := (ia 1)) (i := ((20 * j2) + j5)) (v := v) (by omega) eh16
        refine v_iload C 0 rfl dX5_amount_84 ?_
        have ek : (kAmount (nI j2) (nI j5) v) = 0 := by simp [kAmount, inN, wth, c1, c4, c8]
        exact v_iret C hQ hr rfl (Nat.le_of_ble_eq_true rfl) (Nat.le_of_ble_eq_true rfl) dX5_amount_86 (Or.inl ⟨ek, ⟨_, _, _, _, hm16, (by show MSa (up3 (oA s) (cl (nI j2)) (cl (nI j5)) v) _ ∧ _; rw [cl_nI (by omega), cl_nI (by omega)]; exact ⟨hs.1.put (by omega), hs.2⟩), rfl⟩, (by rw [cl_nI (by omega), cl_nI (by omega)]; exact hs.1 _ _ (by omega) (by omega))⟩)
      · rw [zb_f c8] at e8; subst e8
        refine v_if_eq (tgt := 46) C dX5_amount_39 (by decide) (fun c17 => ?_) (fun c17 => absurd c17 (by decide))
        refine v_iconst (v := 2) C dX5_amount_46 (by decide) ?_
        refine v_put C (mC ad (upN ns 0 2)) P_X5_85 hm.1 rfl rfl rfl (Nat.le_of_ble_eq_true rfl) dX5_amount_47 (v_nw (fun h18 eh18 => ?_))
        have hm18 := hm.putS 0 2 rfl eh18
        refine v_aload_n C 1 rfl dX5_amount_50 rfl ?_
        refine v_get (v := .int (nI 2)) C F_X5_85 hm18.1 rfl dX5_amount_51 ?_
        refine v_if_le (tgt := 59) C dX5_amount_54 (by decide) (fun c19 => absurd c19 (by decide)) (fun c19 => ?_)
        refine v_iconst (v := 0) C dX5_amount_57 (by decide) ?_
        have ek : (kAmount (nI j2) (nI j5) v) = 2 := by simp [kAmount, inN, wth, c1, c4, c8]
        exact v_iret C hQ hr rfl (Nat.le_of_ble_eq_true rfl) (Nat.le_of_ble_eq_true rfl) dX5_amount_58 (Or.inr ⟨(by rw [ek]; decide), (by rw [ek]; exact ⟨_, _, _, _, hm18, hs.thr _, rfl⟩)⟩)
    · rw [zb_f c4] at e4; subst e4
      refine v_if_eq (tgt := 18) C dX5_amount_11 (by decide) (fun c20 => ?_) (fun c20 => absurd c20 (by decide))
      refine v_iconst (v := 0) C dX5_amount_18 (by decide) ?_
      refine v_istore C [(4, .int 0), (0, .ref m), (1, .int (nI j2)), (2, .int q), (3, .int v)] rfl (by decide) dX5_amount_19 ?_
      refine v_aload_n C 1 rfl dX5_amount_21 rfl ?_
      refine v_iload C 0 rfl dX5_amount_22 ?_
      refine v_if_ne (tgt := 31) C dX5_amount_24 (by decide) (fun c21 => absurd c21 (by decide)) (fun c21 => ?_)
      refine v_iconst (v := 1) C dX5_amount_27 (by decide) ?_
      refine v_goto (tgt := 47) C dX5_amount_28 (by decide) ?_
      refine v_put C (mC ad (upN ns 0 1)) P_X5_85 hm.1 rfl rfl rfl (Nat.le_of_ble_eq_true rfl) dX5_amount_47 (v_nw (fun h22 eh22 => ?_))
      have hm22 := hm.putS 0 1 rfl eh22
      refine v_aload_n C 1 rfl dX5_amount_50 rfl ?_
      refine v_get (v := .int (nI 1)) C F_X5_85 hm22.1 rfl dX5_amount_51 ?_
      refine v_if_le (tgt := 59) C dX5_amount_54 (by decide) (fun c23 => absurd c23 (by decide)) (fun c23 => ?_)
      refine v_iconst (v := 0) C dX5_amount_57 (by decide) ?_
      have ek : (kAmount (nI j2) q v) = 1 := by simp [kAmount, inN, wth, c1, c4]
      exact v_iret C hQ hr rfl (Nat.le_of_ble_eq_true rfl) (Nat.le_of_ble_eq_true rfl) dX5_amount_58 (Or.inr ⟨(by rw [ek]; decide), (by rw [ek]; exact ⟨_, _, _, _, hm22, hs.thr _, rfl⟩)⟩)
  · rw [zb_f c1] at e1; subst e1
    refine v_if_eq (tgt := 18) C dX5_amount_4 (by decide) (fun c24 => ?_) (fun c24 => absurd c24 (by decide))
    refine v_iconst (v := 0) C dX5_amount_18 (by decide) ?_
    refine v_istore C [(4, .int 0), (0, .ref m), (1, .int a), (2, .int q), (3, .int v)] rfl (by decide) dX5_amount_19 ?_
    refine v_aload_n C 1 rfl dX5_amount_21 rfl ?_
    refine v_iload C 0 rfl dX5_amount_22 ?_
    refine v_if_ne (tgt := 31) C dX5_amount_24 (by decide) (fun c25 => absurd c25 (by decide)) (fun c25 => ?_)
    refine v_iconst (v := 1) C dX5_amount_27 (by decide) ?_
    refine v_goto (tgt := 47) C dX5_amount_28 (by decide) ?_
    refine v_put C (mC ad (upN ns 0 1)) P_X5_85 hm.1 rfl rfl rfl (Nat.le_of_ble_eq_true rfl) dX5_amount_47 (v_nw (fun h26 eh26 => ?_))
    have hm26 := hm.putS 0 1 rfl eh26
    refine v_aload_n C 1 rfl dX5_amount_50 rfl ?_
    refine v_get (v := .int (nI 1)) C F_X5_85 hm26.1 rfl dX5_amount_51 ?_
    refine v_if_le (tgt := 59) C dX5_amount_54 (by decide) (fun c27 => absurd c27 (by decide)) (fun c27 => ?_)
    refine v_iconst (v := 0) C dX5_amount_57 (by decide) ?_
    have ek : (kAmount a q v) = 1 := by simp [kAmount, inN, wth, c1]
    exact v_iret C hQ hr rfl (Nat.le_of_ble_eq_true rfl) (Nat.le_of_ble_eq_true rfl) dX5_amount_58 (Or.inr ⟨(by rw [ek]; decide), (by rw [ek]; exact ⟨_, _, _, _, hm26, hs.thr _, rfl⟩)⟩)

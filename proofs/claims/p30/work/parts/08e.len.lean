set_option maxHeartbeats 4000000 in
set_option maxRecDepth 100000 in
theorem c_L_length1 (l : Launch) (hl : l.stackTraces = false) (G : zG) (fa k M : Nat) (F : Nat → Nat) (A D : Nat → Int32) (T : Nat → List Tok) (lv : Nat → Nat) (s : ZS) (h : zH) (hw : WFs s) (he : EV s F A D T lv M) (hF : iC G h fa 60 (fN F)) (hk : k < M) (hv : lv k ≤ 1) : zMet eI l yL_length1 cL_length1 2 (some .int) 13 0 0 G [.int (nI k), .ref fa] h (fun r h2 => r = nI (txtOf (T k)).length ∧ h = h2) := by
  refine con_of hl RL rfl (by decide +kernel) [(0, .int (nI k)), (1, .ref fa)] rfl (Nat.le_of_ble_eq_true rfl) ?_
  intro zp ze zs zm zargs zbelow zmeth zc C hr hin Q hQ
  have hM := he.1
  have hN6 := he.2.1
  obtain ⟨l1, l6, l3, hFE⟩ := he.2.2.1 k hk
  rcases hFE with ⟨f0, f1, fT, fl⟩ | ⟨f0, f1, fT, fl⟩ | ⟨f0, f1, fT, fl⟩ | ⟨f0, f1, f2, fT, fl⟩ | ⟨f0, f1, f2, fT, fl⟩ | ⟨f0, f1, fT, fl⟩
  · have hTX := (congrArg txtOf fT).trans (tx4 f1)
    refine v_aload_n C 1 rfl dL_length1_0 rfl ?_
    refine v_iconst (v := 4) C dL_length1_1 (by decide) ?_
    refine v_iload_n C 0 rfl dL_length1_2 rfl ?_
    refine v_imul C dL_length1_3 (v_eqi (nI_kml k 4 (by decide)) ?_)
    refine v_iald C hF (vpin (show 4 * k < 60 by omega) (by decide)) dL_length1_4 (v_eqi (y := nI 4) ((congrArg (fun j => nI (F j)) (nI_clamp (show 4 * k < 2 ^ 31 by omega))).trans (congrArg nI f0)) ?_)
    refine v_iconst (v := 4) C dL_length1_5 (by decide) ?_
    refine v_icmp_ne (tgt := 13) C dL_length1_6 (by decide) (fun c2 => absurd c2 (by decide)) (fun c2 => ?_)
    refine v_iconst (v := 2) C dL_length1_9 (by decide) ?_
    refine v_goto (tgt := 23) C dL_length1_10 (by decide) ?_
    exact v_iret C hQ hr rfl (Nat.le_of_ble_eq_true rfl) (Nat.le_of_ble_eq_true rfl) dL_length1_23 ⟨by rw [hTX]; rfl, rfl⟩
  · have hTX := (congrArg txtOf fT).trans (tx5 (F (4 * k + 1)))
    have d7 := dg_le7 f1
    refine v_aload_n C 1 rfl dL_length1_0 rfl ?_
    refine v_iconst (v := 4) C dL_length1_1 (by decide) ?_
    refine v_iload_n C 0 rfl dL_length1_2 rfl ?_
    refine v_imul C dL_length1_3 (v_eqi (nI_kml k 4 (by decide)) ?_)
    refine v_iald C hF (vpin (show 4 * k < 60 by omega) (by decide)) dL_length1_4 (v_eqi (y := nI 5) ((congrArg (fun j => nI (F j)) (nI_clamp (show 4 * k < 2 ^ 31 by omega))).trans (congrArg nI f0)) ?_)
    refine v_iconst (v := 4) C dL_length1_5 (by decide) ?_
    refine v_icmp_ne (tgt := 13) C dL_length1_6 (by decide) (fun c4 => ?_) (fun c4 => absurd c4 (by decide))
    refine v_aload_n C 1 rfl dL_length1_13 rfl ?_
    refine v_iconst (v := 4) C dL_length1_14 (by decide) ?_
    refine v_iload_n C 0 rfl dL_length1_15 rfl ?_
    refine v_imul C dL_length1_16 (v_eqi (nI_kml k 4 (by decide)) ?_)
    refine v_iconst (v := 1) C dL_length1_17 (by decide) ?_
    refine v_iadd C dL_length1_18 (v_eqi (nI_adk (4 * k) 1 (by decide)) ?_)
    refine v_iald C hF (vpin (show 4 * k + 1 < 60 by omega) (by decide)) dL_length1_19 (v_eqi (y := nI (F (4 * k + 1))) (congrArg (fun j => nI (F j)) (nI_clamp (show 4 * k + 1 < 2 ^ 31 by omega))) ?_)
    refine v_callS (rest := []) C (c_L_digits l hl G (F (4 * k + 1)) h (by omega)) S_L_12 rfl rfl (Nat.le_of_ble_eq_true rfl) ⟨Nat.le_of_ble_eq_true rfl, Nat.le_of_ble_eq_true rfl⟩ ⟨Nat.le_of_ble_eq_true rfl, Nat.le_of_ble_eq_true rfl⟩ dL_length1_20 (fun i7 h7 q7 => ?_)
    obtain ⟨e7, rfl⟩ := q7; subst e7
    exact v_iret C hQ hr rfl (Nat.le_of_ble_eq_true rfl) (Nat.le_of_ble_eq_true rfl) dL_length1_23 ⟨by rw [hTX, dgl_len], rfl⟩
  · exact absurd (EV.tl he hw f1) (by omega)
  · exact absurd (he.lv1 (k := F (4 * k + 1)) (by omega)) (by omega)
  · exact absurd (he.lv1 (k := F (4 * k + 1)) (by omega)) (by omega)
  · exact absurd (he.lv1 (k := F (4 * k + 1)) (by omega)) (by omega)
set_option maxHeartbeats 4000000 in
set_option maxRecDepth 100000 in
theorem c_L_length2 (l : Launch) (hl : l.stackTraces = false) (G : zG) (fa k M : Nat) (F : Nat → Nat) (A D : Nat → Int32) (T : Nat → List Tok) (lv : Nat → Nat) (s : ZS) (h : zH) (hw : WFs s) (he : EV s F A D T lv M) (hF : iC G h fa 60 (fN F)) (hk : k < M) (hv : lv k ≤ 2) : zMet eI l yL_length2 cL_length2 4 (some .int) 14 0 0 G [.int (nI k), .ref fa] h (fun r h2 => r = nI (txtOf (T k)).length ∧ h = h2) := by
  refine con_of hl RL rfl (by decide +kernel) [(0, .int (nI k)), (1, .ref fa)] rfl (Nat.le_of_ble_eq_true rfl) ?_
  intro zp ze zs zm zargs zbelow zmeth zc C hr hin Q hQ
  have hM := he.1
  have hN6 := he.2.1
  obtain ⟨l1, l6, l3, hFE⟩ := he.2.2.1 k hk
  rcases hFE with ⟨f0, f1, fT, fl⟩ | ⟨f0, f1, fT, fl⟩ | ⟨f0, f1, fT, fl⟩ | ⟨f0, f1, f2, fT, fl⟩ | ⟨f0, f1, f2, fT, fl⟩ | ⟨f0, f1, fT, fl⟩
  · have hTX := (congrArg txtOf fT).trans (tx4 f1)
    refine v_aload_n C 1 rfl dL_length2_0 rfl ?_
    refine v_iconst (v := 4) C dL_length2_1 (by decide) ?_
    refine v_iload_n C 0 rfl dL_length2_2 rfl ?_
    refine v_imul C dL_length2_3 (v_eqi (nI_kml k 4 (by decide)) ?_)
    refine v_iald C hF (vpin (show 4 * k < 60 by omega) (by decide)) dL_length2_4 (v_eqi (y := nI 4) ((congrArg (fun j => nI (F j)) (nI_clamp (show 4 * k < 2 ^ 31 by omega))).trans (congrArg nI f0)) ?_)
    refine v_istore_n C [(2, .int (nI 4)), (0, .int (nI k)), (1, .ref fa)] rfl (by decide) dL_length2_5 rfl ?_
    refine v_iload_n C 0 rfl dL_length2_6 rfl ?_
    refine v_iconst (v := 4) C dL_length2_7 (by decide) ?_
    refine v_icmp_eq (tgt := 16) C dL_length2_8 (by decide) (fun c2 => ?_) (fun c2 => absurd c2 (by decide))
    refine v_iload_n C 1 rfl dL_length2_16 rfl ?_
    refine v_aload_n C 2 rfl dL_length2_17 rfl ?_
    refine v_callS (rest := []) C (c_L_length1 l hl G fa k M F A D T lv s h hw he hF hk (by omega)) S_L_40 rfl rfl (Nat.le_of_ble_eq_true rfl) ⟨Nat.le_of_ble_eq_true rfl, Nat.le_of_ble_eq_true rfl⟩ ⟨Nat.le_of_ble_eq_true rfl, Nat.le_of_ble_eq_true rfl⟩ dL_length2_18 (fun i3 h3 q3 => ?_)
    obtain ⟨e3, rfl⟩ := q3
    subst e3
    exact v_iret C hQ hr rfl (Nat.le_of_ble_eq_true rfl) (Nat.le_of_ble_eq_true rfl) dL_length2_21 ⟨rfl, rfl⟩
  · have hTX := (congrArg txtOf fT).trans (tx5 (F (4 * k + 1)))
    have d7 := dg_le7 f1
    refine v_aload_n C 1 rfl dL_length2_0 rfl ?_
    refine v_iconst (v := 4) C dL_length2_1 (by decide) ?_
    refine v_iload_n C 0 rfl dL_length2_2 rfl ?_
    refine v_imul C dL_length2_3 (v_eqi (nI_kml k 4 (by decide)) ?_)
    refine v_iald C hF (vpin (show 4 * k < 60 by omega) (by decide)) dL_length2_4 (v_eqi (y := nI 5) ((congrArg (fun j => nI (F j)) (nI_clamp (show 4 * k < 2 ^ 31 by omega))).trans (congrArg nI f0)) ?_)
    refine v_istore_n C [(2, .int (nI 5)), (0, .int (nI k)), (1, .ref fa)] rfl (by decide) dL_length2_5 rfl ?_
    refine v_iload_n C 0 rfl dL_length2_6 rfl ?_
    refine v_iconst (v := 4) C dL_length2_7 (by decide) ?_
    refine v_icmp_eq (tgt := 16) C dL_length2_8 (by decide) (fun c5 => absurd c5 (by decide)) (fun c5 => ?_)
    refine v_iload_n C 0 rfl dL_length2_11 rfl ?_
    refine v_iconst (v := 5) C dL_length2_12 (by decide) ?_
    refine v_icmp_ne (tgt := 22) C dL_length2_13 (by decide) (fun c6 => absurd c6 (by decide)) (fun c6 => ?_)
    refine v_iload_n C 1 rfl dL_length2_16 rfl ?_
    refine v_aload_n C 2 rfl dL_length2_17 rfl ?_
    refine v_callS (rest := []) C (c_L_length1 l hl G fa k M F A D T lv s h hw he hF hk (by omega)) S_L_40 rfl rfl (Nat.le_of_ble_eq_true rfl) ⟨Nat.le_of_ble_eq_true rfl, Nat.le_of_ble_eq_true rfl⟩ ⟨Nat.le_of_ble_eq_true rfl, Nat.le_of_ble_eq_true rfl⟩ dL_length2_18 (fun i7 h7 q7 => ?_)
    obtain ⟨e7, rfl⟩ := q7
    subst e7
    exact v_iret C hQ hr rfl (Nat.le_of_ble_eq_true rfl) (Nat.le_of_ble_eq_true rfl) dL_length2_21 ⟨rfl, rfl⟩
  · have hTX := (congrArg txtOf fT).trans (tx6 (a := F (4 * k + 1)) (by omega))
    refine v_aload_n C 1 rfl dL_length2_0 rfl ?_
    refine v_iconst (v := 4) C dL_length2_1 (by decide) ?_
    refine v_iload_n C 0 rfl dL_length2_2 rfl ?_
    refine v_imul C dL_length2_3 (v_eqi (nI_kml k 4 (by decide)) ?_)
    refine v_iald C hF (vpin (show 4 * k < 60 by omega) (by decide)) dL_length2_4 (v_eqi (y := nI 6) ((congrArg (fun j => nI (F j)) (nI_clamp (show 4 * k < 2 ^ 31 by omega))).trans (congrArg nI f0)) ?_)
    refine v_istore_n C [(2, .int (nI 6)), (0, .int (nI k)), (1, .ref fa)] rfl (by decide) dL_length2_5 rfl ?_
    refine v_iload_n C 0 rfl dL_length2_6 rfl ?_
    refine v_iconst (v := 4) C dL_length2_7 (by decide) ?_
    refine v_icmp_eq (tgt := 16) C dL_length2_8 (by decide) (fun c9 => absurd c9 (by decide)) (fun c9 => ?_)
    refine v_iload_n C 0 rfl dL_length2_11 rfl ?_
    refine v_iconst (v := 5) C dL_length2_12 (by decide) ?_
    refine v_icmp_ne (tgt := 22) C dL_length2_13 (by decide) (fun c10 => ?_) (fun c10 => absurd c10 (by decide))
    refine v_iload_n C 0 rfl dL_length2_22 rfl ?_
    refine v_bipush (v := 6) C dL_length2_23 (by decide) ?_
    refine v_icmp_ne (tgt := 30) C dL_length2_25 (by decide) (fun c11 => absurd c11 (by decide)) (fun c11 => ?_)
    refine v_iconst (v := 2) C dL_length2_28 (by decide) ?_
    exact v_iret C hQ hr rfl (Nat.le_of_ble_eq_true rfl) (Nat.le_of_ble_eq_true rfl) dL_length2_29 ⟨by rw [hTX]; rfl, rfl⟩
  · obtain ⟨X, hX⟩ : ∃ X, X = txtOf (T (F (4 * k + 1))) := ⟨_, rfl⟩
    have xl : X.length ≤ 441 := by rw [hX]; exact (he.w6 hw (k := F (4 * k + 1)) (by omega)).txl6 (Nat.le_refl _)
    obtain ⟨Y, hY⟩ : ∃ Y, Y = txtOf (T (F (4 * k + 2))) := ⟨_, rfl⟩
    have yl : Y.length ≤ 441 := by rw [hY]; exact (he.w6 hw (k := F (4 * k + 2)) (by omega)).txl6 (Nat.le_refl _)
    have hTX : txtOf (T k) = sjt (F (4 * k)) X Y := by rw [fT, txt_join (he.w6 hw (k := F (4 * k + 1)) (by omega)) (he.w6 hw (k := F (4 * k + 2)) (by omega)) f0, hX, hY]
    refine v_aload_n C 1 rfl dL_length2_0 rfl ?_
    refine v_iconst (v := 4) C dL_length2_1 (by decide) ?_
    refine v_iload_n C 0 rfl dL_length2_2 rfl ?_
    refine v_imul C dL_length2_3 (v_eqi (nI_kml k 4 (by decide)) ?_)
    refine v_iald C hF (vpin (show 4 * k < 60 by omega) (by decide)) dL_length2_4 (v_eqi (y := nI (F (4 * k))) ((congrArg (fun j => nI (F j)) (nI_clamp (show 4 * k < 2 ^ 31 by omega))).trans (congrArg nI rfl)) ?_)
    refine v_istore_n C [(2, .int (nI (F (4 * k)))), (0, .int (nI k)), (1, .ref fa)] rfl (by decide) dL_length2_5 rfl ?_
    refine v_iload_n C 0 rfl dL_length2_6 rfl ?_
    refine v_iconst (v := 4) C dL_length2_7 (by decide) ?_
    refine v_icmp_eq (tgt := 16) C dL_length2_8 (by decide) (fun c13 => absurd ((nk_eq (a := F (4 * k)) 4 (by decide) (by omega) (by decide)).mp c13) (by omega)) (fun c13 => ?_)
    have c13 := (nk_eq_f (a := (F (4 * k))) 4 (by decide) (by omega) (by decide)).mp c13
    refine v_iload_n C 0 rfl dL_length2_11 rfl ?_
    refine v_iconst (v := 5) C dL_length2_12 (by decide) ?_
    refine v_icmp_ne (tgt := 22) C dL_length2_13 (by decide) (fun c14 => ?_) (fun c14 => absurd ((nk_ne_f (a := F (4 * k)) 5 (by decide) (by omega) (by decide)).mp c14) (by omega))
    have c14 := (nk_ne (a := (F (4 * k))) 5 (by decide) (by omega) (by decide)).mp c14
    refine v_iload_n C 0 rfl dL_length2_22 rfl ?_
    refine v_bipush (v := 6) C dL_length2_23 (by decide) ?_
    refine v_icmp_ne (tgt := 30) C dL_length2_25 (by decide) (fun c15 => ?_) (fun c15 => absurd ((nk_ne_f (a := F (4 * k)) 6 (by decide) (by omega) (by decide)).mp c15) (by omega))
    have c15 := (nk_ne (a := (F (4 * k))) 6 (by decide) (by omega) (by decide)).mp c15
    refine v_aload_n C 2 rfl dL_length2_30 rfl ?_
    refine v_iconst (v := 4) C dL_length2_31 (by decide) ?_
    refine v_iload_n C 1 rfl dL_length2_32 rfl ?_
    refine v_imul C dL_length2_33 (v_eqi (nI_kml k 4 (by decide)) ?_)
    refine v_iconst (v := 1) C dL_length2_34 (by decide) ?_
    refine v_iadd C dL_length2_35 (v_eqi (nI_adk (4 * k) 1 (by decide)) ?_)
    refine v_iald C hF (vpin (show 4 * k + 1 < 60 by omega) (by decide)) dL_length2_36 (v_eqi (y := nI (F (4 * k + 1))) (congrArg (fun j => nI (F j)) (nI_clamp (show 4 * k + 1 < 2 ^ 31 by omega))) ?_)
    refine v_aload_n C 2 rfl dL_length2_37 rfl ?_
    refine v_callS (rest := []) C (c_L_length1 l hl G fa (F (4 * k + 1)) M F A D T lv s h hw he hF (show F (4 * k + 1) < M by omega) (show lv (F (4 * k + 1)) ≤ 1 by omega)) S_L_40 rfl rfl (Nat.le_of_ble_eq_true rfl) ⟨Nat.le_of_ble_eq_true rfl, Nat.le_of_ble_eq_true rfl⟩ ⟨Nat.le_of_ble_eq_true rfl, Nat.le_of_ble_eq_true rfl⟩ dL_length2_38 (fun i18 h18 q18 => ?_)
    obtain ⟨e18, rfl⟩ := q18
    rw [← hX] at e18
    subst e18
    refine v_istore_n C [(3, .int (nI X.length)), (2, .int (nI (F (4 * k)))), (0, .int (nI k)), (1, .ref fa)] rfl (by decide) dL_length2_41 rfl ?_
    refine v_iload_n C 1 rfl dL_length2_42 rfl ?_
    refine v_bipush (v := 7) C dL_length2_43 (by decide) ?_
    refine v_icmp_ne (tgt := 65) C dL_length2_45 (by decide) (fun c19 => ?_) (fun c19 => absurd ((nk_ne_f (a := F (4 * k)) 7 (by decide) (by omega) (by decide)).mp c19) (by omega))
    have c19 := (nk_ne (a := (F (4 * k))) 7 (by decide) (by omega) (by decide)).mp c19
    refine v_iload_n C 1 rfl dL_length2_65 rfl ?_
    refine v_bipush (v := 8) C dL_length2_66 (by decide) ?_
    refine v_icmp_ne (tgt := 78) C dL_length2_68 (by decide) (fun c20 => ?_) (fun c20 => absurd ((nk_ne_f (a := F (4 * k)) 8 (by decide) (by omega) (by decide)).mp c20) (by omega))
    have c20 := (nk_ne (a := (F (4 * k))) 8 (by decide) (by omega) (by decide)).mp c20
    refine v_iload_n C 0 rfl dL_length2_78 rfl ?_
    refine v_aload_n C 3 rfl dL_length2_79 rfl ?_
    refine v_iconst (v := 4) C dL_length2_80 (by decide) ?_
    refine v_iload_n C 2 rfl dL_length2_81 rfl ?_
    refine v_imul C dL_length2_82 (v_eqi (nI_kml k 4 (by decide)) ?_)
    refine v_iconst (v := 2) C dL_length2_83 (by decide) ?_
    refine v_iadd C dL_length2_84 (v_eqi (nI_adk (4 * k) 2 (by decide)) ?_)
    refine v_iald C hF (vpin (show 4 * k + 2 < 60 by omega) (by decide)) dL_length2_85 (v_eqi (y := nI (F (4 * k + 2))) (congrArg (fun j => nI (F j)) (nI_clamp (show 4 * k + 2 < 2 ^ 31 by omega))) ?_)
    refine v_aload_n C 3 rfl dL_length2_86 rfl ?_
    refine v_callS (rest := [.int (nI X.length)]) C (c_L_length1 l hl G fa (F (4 * k + 2)) M F A D T lv s h hw he hF (show F (4 * k + 2) < M by omega) (show lv (F (4 * k + 2)) ≤ 1 by omega)) S_L_40 rfl rfl (Nat.le_of_ble_eq_true rfl) ⟨Nat.le_of_ble_eq_true rfl, Nat.le_of_ble_eq_true rfl⟩ ⟨Nat.le_of_ble_eq_true rfl, Nat.le_of_ble_eq_true rfl⟩ dL_length2_87 (fun i23 h23 q23 => ?_)
    obtain ⟨e23, rfl⟩ := q23
    rw [← hY] at e23
    subst e23
    refine v_iadd C dL_length2_90 (v_eqi (nI_add X.length Y.length) ?_)
    refine v_iload_n C 1 rfl dL_length2_91 rfl ?_
    refine v_iconst (v := 2) C dL_length2_92 (by decide) ?_
    refine v_icmp_ge (tgt := 100) C dL_length2_93 (by decide) (fun c25 => ?_) (fun c25 => ?_)
    · have c25 := (nk_ge (a := (F (4 * k))) 2 (by decide) (by omega) (by decide)).mp c25
      refine v_bipush (v := 7) C dL_length2_100 (by decide) ?_
      refine v_iadd C dL_length2_102 (v_eqi (nI_adk (X.length + Y.length) 7 (by decide)) ?_)
      exact v_iret C hQ hr rfl (Nat.le_of_ble_eq_true rfl) (Nat.le_of_ble_eq_true rfl) dL_length2_103 ⟨by rw [hTX, sjt_ln f0, if_neg (by omega)], rfl⟩
    · have c25 := (nk_ge_f (a := (F (4 * k))) 2 (by decide) (by omega) (by decide)).mp c25
      refine v_iconst (v := 5) C dL_length2_96 (by decide) ?_
      refine v_goto (tgt := 102) C dL_length2_97 (by decide) ?_
      refine v_iadd C dL_length2_102 (v_eqi (nI_adk (X.length + Y.length) 5 (by decide)) ?_)
      exact v_iret C hQ hr rfl (Nat.le_of_ble_eq_true rfl) (Nat.le_of_ble_eq_true rfl) dL_length2_103 ⟨by rw [hTX, sjt_ln f0, if_pos (by omega)], rfl⟩
  · obtain ⟨X, hX⟩ : ∃ X, X = txtOf (T (F (4 * k + 1))) := ⟨_, rfl⟩
    have xl : X.length ≤ 441 := by rw [hX]; exact (he.w6 hw (k := F (4 * k + 1)) (by omega)).txl6 (Nat.le_refl _)
    have hTX : txtOf (T k) = dgl (F (4 * k + 2)) ++ [37, 32, 111, 102, 32] ++ X := by rw [fT, txt_share (he.w6 hw (k := F (4 * k + 1)) (by omega)), hX]
    have d3 := dg_le3 f2
    refine v_aload_n C 1 rfl dL_length2_0 rfl ?_
    refine v_iconst (v := 4) C dL_length2_1 (by decide) ?_
    refine v_iload_n C 0 rfl dL_length2_2 rfl ?_
    refine v_imul C dL_length2_3 (v_eqi (nI_kml k 4 (by decide)) ?_)
    refine v_iald C hF (vpin (show 4 * k < 60 by omega) (by decide)) dL_length2_4 (v_eqi (y := nI 7) ((congrArg (fun j => nI (F j)) (nI_clamp (show 4 * k < 2 ^ 31 by omega))).trans (congrArg nI f0)) ?_)
    refine v_istore_n C [(2, .int (nI 7)), (0, .int (nI k)), (1, .ref fa)] rfl (by decide) dL_length2_5 rfl ?_
    refine v_iload_n C 0 rfl dL_length2_6 rfl ?_
    refine v_iconst (v := 4) C dL_length2_7 (by decide) ?_
    refine v_icmp_eq (tgt := 16) C dL_length2_8 (by decide) (fun c29 => absurd c29 (by decide)) (fun c29 => ?_)
    refine v_iload_n C 0 rfl dL_length2_11 rfl ?_
    refine v_iconst (v := 5) C dL_length2_12 (by decide) ?_
    refine v_icmp_ne (tgt := 22) C dL_length2_13 (by decide) (fun c30 => ?_) (fun c30 => absurd c30 (by decide))
    refine v_iload_n C 0 rfl dL_length2_22 rfl ?_
    refine v_bipush (v := 6) C dL_length2_23 (by decide) ?_
    refine v_icmp_ne (tgt := 30) C dL_length2_25 (by decide) (fun c31 => ?_) (fun c31 => absurd c31 (by decide))
    refine v_aload_n C 2 rfl dL_length2_30 rfl ?_
    refine v_iconst (v := 4) C dL_length2_31 (by decide) ?_
    refine v_iload_n C 1 rfl dL_length2_32 rfl ?_
    refine v_imul C dL_length2_33 (v_eqi (nI_kml k 4 (by decide)) ?_)
    refine v_iconst (v := 1) C dL_length2_34 (by decide) ?_
    refine v_iadd C dL_length2_35 (v_eqi (nI_adk (4 * k) 1 (by decide)) ?_)
    refine v_iald C hF (vpin (show 4 * k + 1 < 60 by omega) (by decide)) dL_length2_36 (v_eqi (y := nI (F (4 * k + 1))) (congrArg (fun j => nI (F j)) (nI_clamp (show 4 * k + 1 < 2 ^ 31 by omega))) ?_)
    refine v_aload_n C 2 rfl dL_length2_37 rfl ?_
    refine v_callS (rest := []) C (c_L_length1 l hl G fa (F (4 * k + 1)) M F A D T lv s h hw he hF (show F (4 * k + 1) < M by omega) (show lv (F (4 * k + 1)) ≤ 1 by omega)) S_L_40 rfl rfl (Nat.le_of_ble_eq_true rfl) ⟨Nat.le_of_ble_eq_true rfl, Nat.le_of_ble_eq_true rfl⟩ ⟨Nat.le_of_ble_eq_true rfl, Nat.le_of_ble_eq_true rfl⟩ dL_length2_38 (fun i34 h34 q34 => ?_)
    obtain ⟨e34, rfl⟩ := q34
    rw [← hX] at e34
    subst e34
    refine v_istore_n C [(3, .int (nI X.length)), (2, .int (nI 7)), (0, .int (nI k)), (1, .ref fa)] rfl (by decide) dL_length2_41 rfl ?_
    refine v_iload_n C 1 rfl dL_length2_42 rfl ?_
    refine v_bipush (v := 7) C dL_length2_43 (by decide) ?_
    refine v_icmp_ne (tgt := 65) C dL_length2_45 (by decide) (fun c35 => absurd c35 (by decide)) (fun c35 => ?_)
    refine v_iload_n C 0 rfl dL_length2_48 rfl ?_
    refine v_iconst (v := 5) C dL_length2_49 (by decide) ?_
    refine v_iadd C dL_length2_50 (v_eqi (nI_adk X.length 5 (by decide)) ?_)
    refine v_aload_n C 3 rfl dL_length2_51 rfl ?_
    refine v_iconst (v := 4) C dL_length2_52 (by decide) ?_
    refine v_iload_n C 2 rfl dL_length2_53 rfl ?_
    refine v_imul C dL_length2_54 (v_eqi (nI_kml k 4 (by decide)) ?_)
    refine v_iconst (v := 2) C dL_length2_55 (by decide) ?_
    refine v_iadd C dL_length2_56 (v_eqi (nI_adk (4 * k) 2 (by decide)) ?_)
    refine v_iald C hF (vpin (show 4 * k + 2 < 60 by omega) (by decide)) dL_length2_57 (v_eqi (y := nI (F (4 * k + 2))) (congrArg (fun j => nI (F j)) (nI_clamp (show 4 * k + 2 < 2 ^ 31 by omega))) ?_)
    refine v_callS (rest := [.int (nI (X.length + 5))]) C (c_L_digits l hl G (F (4 * k + 2)) h (by omega)) S_L_12 rfl rfl (Nat.le_of_ble_eq_true rfl) ⟨Nat.le_of_ble_eq_true rfl, Nat.le_of_ble_eq_true rfl⟩ ⟨Nat.le_of_ble_eq_true rfl, Nat.le_of_ble_eq_true rfl⟩ dL_length2_58 (fun i39 h39 q39 => ?_)
    obtain ⟨e39, rfl⟩ := q39; subst e39
    refine v_iadd C dL_length2_61 (v_eqi (nI_add (X.length + 5) (sb_dg (F (4 * k + 2)))) ?_)
    refine v_goto (tgt := 103) C dL_length2_62 (by decide) ?_
    exact v_iret C hQ hr rfl (Nat.le_of_ble_eq_true rfl) (Nat.le_of_ble_eq_true rfl) dL_length2_103 ⟨by rw [hTX]; refine congrArg nI ?_; simp only [List.length_append, dgl_len, List.length_cons, List.length_nil]; omega, rfl⟩
  · obtain ⟨X, hX⟩ : ∃ X, X = txtOf (T (F (4 * k + 1))) := ⟨_, rfl⟩
    have xl : X.length ≤ 441 := by rw [hX]; exact (he.w6 hw (k := F (4 * k + 1)) (by omega)).txl6 (Nat.le_refl _)
    have hTX : txtOf (T k) = [121, 101, 97, 114, 40] ++ X ++ [41] := by rw [fT, txt_year (he.w6 hw (k := F (4 * k + 1)) (by omega)), hX]
    refine v_aload_n C 1 rfl dL_length2_0 rfl ?_
    refine v_iconst (v := 4) C dL_length2_1 (by decide) ?_
    refine v_iload_n C 0 rfl dL_length2_2 rfl ?_
    refine v_imul C dL_length2_3 (v_eqi (nI_kml k 4 (by decide)) ?_)
    refine v_iald C hF (vpin (show 4 * k < 60 by omega) (by decide)) dL_length2_4 (v_eqi (y := nI 8) ((congrArg (fun j => nI (F j)) (nI_clamp (show 4 * k < 2 ^ 31 by omega))).trans (congrArg nI f0)) ?_)
    refine v_istore_n C [(2, .int (nI 8)), (0, .int (nI k)), (1, .ref fa)] rfl (by decide) dL_length2_5 rfl ?_
    refine v_iload_n C 0 rfl dL_length2_6 rfl ?_
    refine v_iconst (v := 4) C dL_length2_7 (by decide) ?_
    refine v_icmp_eq (tgt := 16) C dL_length2_8 (by decide) (fun c42 => absurd c42 (by decide)) (fun c42 => ?_)
    refine v_iload_n C 0 rfl dL_length2_11 rfl ?_
    refine v_iconst (v := 5) C dL_length2_12 (by decide) ?_
    refine v_icmp_ne (tgt := 22) C dL_length2_13 (by decide) (fun c43 => ?_) (fun c43 => absurd c43 (by decide))
    refine v_iload_n C 0 rfl dL_length2_22 rfl ?_
    refine v_bipush (v := 6) C dL_length2_23 (by decide) ?_
    refine v_icmp_ne (tgt := 30) C dL_length2_25 (by decide) (fun c44 => ?_) (fun c44 => absurd c44 (by decide))
    refine v_aload_n C 2 rfl dL_length2_30 rfl ?_
    refine v_iconst (v := 4) C dL_length2_31 (by decide) ?_
    refine v_iload_n C 1 rfl dL_length2_32 rfl ?_
    refine v_imul C dL_length2_33 (v_eqi (nI_kml k 4 (by decide)) ?_)
    refine v_iconst (v := 1) C dL_length2_34 (by decide) ?_
    refine v_iadd C dL_length2_35 (v_eqi (nI_adk (4 * k) 1 (by decide)) ?_)
    refine v_iald C hF (vpin (show 4 * k + 1 < 60 by omega) (by decide)) dL_length2_36 (v_eqi (y := nI (F (4 * k + 1))) (congrArg (fun j => nI (F j)) (nI_clamp (show 4 * k + 1 < 2 ^ 31 by omega))) ?_)
    refine v_aload_n C 2 rfl dL_length2_37 rfl ?_
    refine v_callS (rest := []) C (c_L_length1 l hl G fa (F (4 * k + 1)) M F A D T lv s h hw he hF (show F (4 * k + 1) < M by omega) (show lv (F (4 * k + 1)) ≤ 1 by omega)) S_L_40 rfl rfl (Nat.le_of_ble_eq_true rfl) ⟨Nat.le_of_ble_eq_true rfl, Nat.le_of_ble_eq_true rfl⟩ ⟨Nat.le_of_ble_eq_true rfl, Nat.le_of_ble_eq_true rfl⟩ dL_length2_38 (fun i47 h47 q47 => ?_)
    obtain ⟨e47, rfl⟩ := q47
    rw [← hX] at e47
    subst e47
    refine v_istore_n C [(3, .int (nI X.length)), (2, .int (nI 8)), (0, .int (nI k)), (1, .ref fa)] rfl (by decide) dL_length2_41 rfl ?_
    refine v_iload_n C 1 rfl dL_length2_42 rfl ?_
    refine v_bipush (v := 7) C dL_length2_43 (by decide) ?_
    refine v_icmp_ne (tgt := 65) C dL_length2_45 (by decide) (fun c48 => ?_) (fun c48 => absurd c48 (by decide))
    refine v_iload_n C 1 rfl dL_length2_65 rfl ?_
    refine v_bipush (v := 8) C dL_length2_66 (by decide) ?_
    refine v_icmp_ne (tgt := 78) C dL_length2_68 (by decide) (fun c49 => absurd c49 (by decide)) (fun c49 => ?_)
    refine v_iload_n C 0 rfl dL_length2_71 rfl ?_
    refine v_bipush (v := 6) C dL_length2_72 (by decide) ?_
    refine v_iadd C dL_length2_74 (v_eqi (nI_adk X.length 6 (by decide)) ?_)
    refine v_goto (tgt := 103) C dL_length2_75 (by decide) ?_
    exact v_iret C hQ hr rfl (Nat.le_of_ble_eq_true rfl) (Nat.le_of_ble_eq_true rfl) dL_length2_103 ⟨by rw [hTX]; refine congrArg nI ?_; simp only [List.length_append, List.length_cons, List.length_nil]; omega, rfl⟩
set_option maxHeartbeats 4000000 in
set_option maxRecDepth 100000 in
theorem c_L_length3 (l : Launch) (hl : l.stackTraces = false) (G : zG) (fa k M : Nat) (F : Nat → Nat) (A D : Nat → Int32) (T : Nat → List Tok) (lv : Nat → Nat) (s : ZS) (h : zH) (hw : WFs s) (he : EV s F A D T lv M) (hF : iC G h fa 60 (fN F)) (hk : k < M) (hv : lv k ≤ 3) : zMet eI l yL_length3 cL_length3 4 (some .int) 15 0 0 G [.int (nI k), .ref fa] h (fun r h2 => r = nI (txtOf (T k)).length ∧ h = h2) := by
  refine con_of hl RL rfl (by decide +kernel) [(0, .int (nI k)), (1, .ref fa)] rfl (Nat.le_of_ble_eq_true rfl) ?_
  intro zp ze zs zm zargs zbelow zmeth zc C hr hin Q hQ
  have hM := he.1
  have hN6 := he.2.1
  obtain ⟨l1, l6, l3, hFE⟩ := he.2.2.1 k hk
  rcases hFE with ⟨f0, f1, fT, fl⟩ | ⟨f0, f1, fT, fl⟩ | ⟨f0, f1, fT, fl⟩ | ⟨f0, f1, f2, fT, fl⟩ | ⟨f0, f1, f2, fT, fl⟩ | ⟨f0, f1, fT, fl⟩
  · have hTX := (congrArg txtOf fT).trans (tx4 f1)
    refine v_aload_n C 1 rfl dL_length3_0 rfl ?_
    refine v_iconst (v := 4) C dL_length3_1 (by decide) ?_
    refine v_iload_n C 0 rfl dL_length3_2 rfl ?_
    refine v_imul C dL_length3_3 (v_eqi (nI_kml k 4 (by decide)) ?_)
    refine v_iald C hF (vpin (show 4 * k < 60 by omega) (by decide)) dL_length3_4 (v_eqi (y := nI 4) ((congrArg (fun j => nI (F j)) (nI_clamp (show 4 * k < 2 ^ 31 by omega))).trans (congrArg nI f0)) ?_)
    refine v_istore_n C [(2, .int (nI 4)), (0, .int (nI k)), (1, .ref fa)] rfl (by decide) dL_length3_5 rfl ?_
    refine v_iload_n C 0 rfl dL_length3_6 rfl ?_
    refine v_iconst (v := 4) C dL_length3_7 (by decide) ?_
    refine v_icmp_eq (tgt := 16) C dL_length3_8 (by decide) (fun c2 => ?_) (fun c2 => absurd c2 (by decide))
    refine v_iload_n C 1 rfl dL_length3_16 rfl ?_
    refine v_aload_n C 2 rfl dL_length3_17 rfl ?_
    refine v_callS (rest := []) C (c_L_length1 l hl G fa k M F A D T lv s h hw he hF hk (by omega)) S_L_40 rfl rfl (Nat.le_of_ble_eq_true rfl) ⟨Nat.le_of_ble_eq_true rfl, Nat.le_of_ble_eq_true rfl⟩ ⟨Nat.le_of_ble_eq_true rfl, Nat.le_of_ble_eq_true rfl⟩ dL_length3_18 (fun i3 h3 q3 => ?_)
    obtain ⟨e3, rfl⟩ := q3
    subst e3
    exact v_iret C hQ hr rfl (Nat.le_of_ble_eq_true rfl) (Nat.le_of_ble_eq_true rfl) dL_length3_21 ⟨rfl, rfl⟩
  · have hTX := (congrArg txtOf fT).trans (tx5 (F (4 * k + 1)))
    have d7 := dg_le7 f1
    refine v_aload_n C 1 rfl dL_length3_0 rfl ?_
    refine v_iconst (v := 4) C dL_length3_1 (by decide) ?_
    refine v_iload_n C 0 rfl dL_length3_2 rfl ?_
    refine v_imul C dL_length3_3 (v_eqi (nI_kml k 4 (by decide)) ?_)
    refine v_iald C hF (vpin (show 4 * k < 60 by omega) (by decide)) dL_length3_4 (v_eqi (y := nI 5) ((congrArg (fun j => nI (F j)) (nI_clamp (show 4 * k < 2 ^ 31 by omega))).trans (congrArg nI f0)) ?_)
    refine v_istore_n C [(2, .int (nI 5)), (0, .int (nI k)), (1, .ref fa)] rfl (by decide) dL_length3_5 rfl ?_
    refine v_iload_n C 0 rfl dL_length3_6 rfl ?_
    refine v_iconst (v := 4) C dL_length3_7 (by decide) ?_
    refine v_icmp_eq (tgt := 16) C dL_length3_8 (by decide) (fun c5 => absurd c5 (by decide)) (fun c5 => ?_)
    refine v_iload_n C 0 rfl dL_length3_11 rfl ?_
    refine v_iconst (v := 5) C dL_length3_12 (by decide) ?_
    refine v_icmp_ne (tgt := 22) C dL_length3_13 (by decide) (fun c6 => absurd c6 (by decide)) (fun c6 => ?_)
    refine v_iload_n C 1 rfl dL_length3_16 rfl ?_
    refine v_aload_n C 2 rfl dL_length3_17 rfl ?_
    refine v_callS (rest := []) C (c_L_length1 l hl G fa k M F A D T lv s h hw he hF hk (by omega)) S_L_40 rfl rfl (Nat.le_of_ble_eq_true rfl) ⟨Nat.le_of_ble_eq_true rfl, Nat.le_of_ble_eq_true rfl⟩ ⟨Nat.le_of_ble_eq_true rfl, Nat.le_of_ble_eq_true rfl⟩ dL_length3_18 (fun i7 h7 q7 => ?_)
    obtain ⟨e7, rfl⟩ := q7
    subst e7
    exact v_iret C hQ hr rfl (Nat.le_of_ble_eq_true rfl) (Nat.le_of_ble_eq_true rfl) dL_length3_21 ⟨rfl, rfl⟩
  · have hTX := (congrArg txtOf fT).trans (tx6 (a := F (4 * k + 1)) (by omega))
    refine v_aload_n C 1 rfl dL_length3_0 rfl ?_
    refine v_iconst (v := 4) C dL_length3_1 (by decide) ?_
    refine v_iload_n C 0 rfl dL_length3_2 rfl ?_
    refine v_imul C dL_length3_3 (v_eqi (nI_kml k 4 (by decide)) ?_)
    refine v_iald C hF (vpin (show 4 * k < 60 by omega) (by decide)) dL_length3_4 (v_eqi (y := nI 6) ((congrArg (fun j => nI (F j)) (nI_clamp (show 4 * k < 2 ^ 31 by omega))).trans (congrArg nI f0)) ?_)
    refine v_istore_n C [(2, .int (nI 6)), (0, .int (nI k)), (1, .ref fa)] rfl (by decide) dL_length3_5 rfl ?_
    refine v_iload_n C 0 rfl dL_length3_6 rfl ?_
    refine v_iconst (v := 4) C dL_length3_7 (by decide) ?_
    refine v_icmp_eq (tgt := 16) C dL_length3_8 (by decide) (fun c9 => absurd c9 (by decide)) (fun c9 => ?_)
    refine v_iload_n C 0 rfl dL_length3_11 rfl ?_
    refine v_iconst (v := 5) C dL_length3_12 (by decide) ?_
    refine v_icmp_ne (tgt := 22) C dL_length3_13 (by decide) (fun c10 => ?_) (fun c10 => absurd c10 (by decide))
    refine v_iload_n C 0 rfl dL_length3_22 rfl ?_
    refine v_bipush (v := 6) C dL_length3_23 (by decide) ?_
    refine v_icmp_ne (tgt := 30) C dL_length3_25 (by decide) (fun c11 => absurd c11 (by decide)) (fun c11 => ?_)
    refine v_iconst (v := 2) C dL_length3_28 (by decide) ?_
    exact v_iret C hQ hr rfl (Nat.le_of_ble_eq_true rfl) (Nat.le_of_ble_eq_true rfl) dL_length3_29 ⟨by rw [hTX]; rfl, rfl⟩
  · obtain ⟨X, hX⟩ : ∃ X, X = txtOf (T (F (4 * k + 1))) := ⟨_, rfl⟩
    have xl : X.length ≤ 441 := by rw [hX]; exact (he.w6 hw (k := F (4 * k + 1)) (by omega)).txl6 (Nat.le_refl _)
    obtain ⟨Y, hY⟩ : ∃ Y, Y = txtOf (T (F (4 * k + 2))) := ⟨_, rfl⟩
    have yl : Y.length ≤ 441 := by rw [hY]; exact (he.w6 hw (k := F (4 * k + 2)) (by omega)).txl6 (Nat.le_refl _)
    have hTX : txtOf (T k) = sjt (F (4 * k)) X Y := by rw [fT, txt_join (he.w6 hw (k := F (4 * k + 1)) (by omega)) (he.w6 hw (k := F (4 * k + 2)) (by omega)) f0, hX, hY]
    refine v_aload_n C 1 rfl dL_length3_0 rfl ?_
    refine v_iconst (v := 4) C dL_length3_1 (by decide) ?_
    refine v_iload_n C 0 rfl dL_length3_2 rfl ?_
    refine v_imul C dL_length3_3 (v_eqi (nI_kml k 4 (by decide)) ?_)
    refine v_iald C hF (vpin (show 4 * k < 60 by omega) (by decide)) dL_length3_4 (v_eqi (y := nI (F (4 * k))) ((congrArg (fun j => nI (F j)) (nI_clamp (show 4 * k < 2 ^ 31 by omega))).trans (congrArg nI rfl)) ?_)
    refine v_istore_n C [(2, .int (nI (F (4 * k)))), (0, .int (nI k)), (1, .ref fa)] rfl (by decide) dL_length3_5 rfl ?_
    refine v_iload_n C 0 rfl dL_length3_6 rfl ?_
    refine v_iconst (v := 4) C dL_length3_7 (by decide) ?_
    refine v_icmp_eq (tgt := 16) C dL_length3_8 (by decide) (fun c13 => absurd ((nk_eq (a := F (4 * k)) 4 (by decide) (by omega) (by decide)).mp c13) (by omega)) (fun c13 => ?_)
    have c13 := (nk_eq_f (a := (F (4 * k))) 4 (by decide) (by omega) (by decide)).mp c13
    refine v_iload_n C 0 rfl dL_length3_11 rfl ?_
    refine v_iconst (v := 5) C dL_length3_12 (by decide) ?_
    refine v_icmp_ne (tgt := 22) C dL_length3_13 (by decide) (fun c14 => ?_) (fun c14 => absurd ((nk_ne_f (a := F (4 * k)) 5 (by decide) (by omega) (by decide)).mp c14) (by omega))
    have c14 := (nk_ne (a := (F (4 * k))) 5 (by decide) (by omega) (by decide)).mp c14
    refine v_iload_n C 0 rfl dL_length3_22 rfl ?_
    refine v_bipush (v := 6) C dL_length3_23 (by decide) ?_
    refine v_icmp_ne (tgt := 30) C dL_length3_25 (by decide) (fun c15 => ?_) (fun c15 => absurd ((nk_ne_f (a := F (4 * k)) 6 (by decide) (by omega) (by decide)).mp c15) (by omega))
    have c15 := (nk_ne (a := (F (4 * k))) 6 (by decide) (by omega) (by decide)).mp c15
    refine v_aload_n C 2 rfl dL_length3_30 rfl ?_
    refine v_iconst (v := 4) C dL_length3_31 (by decide) ?_
    refine v_iload_n C 1 rfl dL_length3_32 rfl ?_
    refine v_imul C dL_length3_33 (v_eqi (nI_kml k 4 (by decide)) ?_)
    refine v_iconst (v := 1) C dL_length3_34 (by decide) ?_
    refine v_iadd C dL_length3_35 (v_eqi (nI_adk (4 * k) 1 (by decide)) ?_)
    refine v_iald C hF (vpin (show 4 * k + 1 < 60 by omega) (by decide)) dL_length3_36 (v_eqi (y := nI (F (4 * k + 1))) (congrArg (fun j => nI (F j)) (nI_clamp (show 4 * k + 1 < 2 ^ 31 by omega))) ?_)
    refine v_aload_n C 2 rfl dL_length3_37 rfl ?_
    refine v_callS (rest := []) C (c_L_length2 l hl G fa (F (4 * k + 1)) M F A D T lv s h hw he hF (show F (4 * k + 1) < M by omega) (show lv (F (4 * k + 1)) ≤ 2 by omega)) S_L_55 rfl rfl (Nat.le_of_ble_eq_true rfl) ⟨Nat.le_of_ble_eq_true rfl, Nat.le_of_ble_eq_true rfl⟩ ⟨Nat.le_of_ble_eq_true rfl, Nat.le_of_ble_eq_true rfl⟩ dL_length3_38 (fun i18 h18 q18 => ?_)
    obtain ⟨e18, rfl⟩ := q18
    rw [← hX] at e18
    subst e18
    refine v_istore_n C [(3, .int (nI X.length)), (2, .int (nI (F (4 * k)))), (0, .int (nI k)), (1, .ref fa)] rfl (by decide) dL_length3_41 rfl ?_
    refine v_iload_n C 1 rfl dL_length3_42 rfl ?_
    refine v_bipush (v := 7) C dL_length3_43 (by decide) ?_
    refine v_icmp_ne (tgt := 65) C dL_length3_45 (by decide) (fun c19 => ?_) (fun c19 => absurd ((nk_ne_f (a := F (4 * k)) 7 (by decide) (by omega) (by decide)).mp c19) (by omega))
    have c19 := (nk_ne (a := (F (4 * k))) 7 (by decide) (by omega) (by decide)).mp c19
    refine v_iload_n C 1 rfl dL_length3_65 rfl ?_
    refine v_bipush (v := 8) C dL_length3_66 (by decide) ?_
    refine v_icmp_ne (tgt := 78) C dL_length3_68 (by decide) (fun c20 => ?_) (fun c20 => absurd ((nk_ne_f (a := F (4 * k)) 8 (by decide) (by omega) (by decide)).mp c20) (by omega))
    have c20 := (nk_ne (a := (F (4 * k))) 8 (by decide) (by omega) (by decide)).mp c20
    refine v_iload_n C 0 rfl dL_length3_78 rfl ?_
    refine v_aload_n C 3 rfl dL_length3_79 rfl ?_
    refine v_iconst (v := 4) C dL_length3_80 (by decide) ?_
    refine v_iload_n C 2 rfl dL_length3_81 rfl ?_
    refine v_imul C dL_length3_82 (v_eqi (nI_kml k 4 (by decide)) ?_)
    refine v_iconst (v := 2) C dL_length3_83 (by decide) ?_
    refine v_iadd C dL_length3_84 (v_eqi (nI_adk (4 * k) 2 (by decide)) ?_)
    refine v_iald C hF (vpin (show 4 * k + 2 < 60 by omega) (by decide)) dL_length3_85 (v_eqi (y := nI (F (4 * k + 2))) (congrArg (fun j => nI (F j)) (nI_clamp (show 4 * k + 2 < 2 ^ 31 by omega))) ?_)
    refine v_aload_n C 3 rfl dL_length3_86 rfl ?_
    refine v_callS (rest := [.int (nI X.length)]) C (c_L_length2 l hl G fa (F (4 * k + 2)) M F A D T lv s h hw he hF (show F (4 * k + 2) < M by omega) (show lv (F (4 * k + 2)) ≤ 2 by omega)) S_L_55 rfl rfl (Nat.le_of_ble_eq_true rfl) ⟨Nat.le_of_ble_eq_true rfl, Nat.le_of_ble_eq_true rfl⟩ ⟨Nat.le_of_ble_eq_true rfl, Nat.le_of_ble_eq_true rfl⟩ dL_length3_87 (fun i23 h23 q23 => ?_)
    obtain ⟨e23, rfl⟩ := q23
    rw [← hY] at e23
    subst e23
    refine v_iadd C dL_length3_90 (v_eqi (nI_add X.length Y.length) ?_)
    refine v_iload_n C 1 rfl dL_length3_91 rfl ?_
    refine v_iconst (v := 2) C dL_length3_92 (by decide) ?_
    refine v_icmp_ge (tgt := 100) C dL_length3_93 (by decide) (fun c25 => ?_) (fun c25 => ?_)
    · have c25 := (nk_ge (a := (F (4 * k))) 2 (by decide) (by omega) (by decide)).mp c25
      refine v_bipush (v := 7) C dL_length3_100 (by decide) ?_
      refine v_iadd C dL_length3_102 (v_eqi (nI_adk (X.length + Y.length) 7 (by decide)) ?_)
      exact v_iret C hQ hr rfl (Nat.le_of_ble_eq_true rfl) (Nat.le_of_ble_eq_true rfl) dL_length3_103 ⟨by rw [hTX, sjt_ln f0, if_neg (by omega)], rfl⟩
    · have c25 := (nk_ge_f (a := (F (4 * k))) 2 (by decide) (by omega) (by decide)).mp c25
      refine v_iconst (v := 5) C dL_length3_96 (by decide) ?_
      refine v_goto (tgt := 102) C dL_length3_97 (by decide) ?_
      refine v_iadd C dL_length3_102 (v_eqi (nI_adk (X.length + Y.length) 5 (by decide)) ?_)
      exact v_iret C hQ hr rfl (Nat.le_of_ble_eq_true rfl) (Nat.le_of_ble_eq_true rfl) dL_length3_103 ⟨by rw [hTX, sjt_ln f0, if_pos (by omega)], rfl⟩
  · obtain ⟨X, hX⟩ : ∃ X, X = txtOf (T (F (4 * k + 1))) := ⟨_, rfl⟩
    have xl : X.length ≤ 441 := by rw [hX]; exact (he.w6 hw (k := F (4 * k + 1)) (by omega)).txl6 (Nat.le_refl _)
    have hTX : txtOf (T k) = dgl (F (4 * k + 2)) ++ [37, 32, 111, 102, 32] ++ X := by rw [fT, txt_share (he.w6 hw (k := F (4 * k + 1)) (by omega)), hX]
    have d3 := dg_le3 f2
    refine v_aload_n C 1 rfl dL_length3_0 rfl ?_
    refine v_iconst (v := 4) C dL_length3_1 (by decide) ?_
    refine v_iload_n C 0 rfl dL_length3_2 rfl ?_
    refine v_imul C dL_length3_3 (v_eqi (nI_kml k 4 (by decide)) ?_)
    refine v_iald C hF (vpin (show 4 * k < 60 by omega) (by decide)) dL_length3_4 (v_eqi (y := nI 7) ((congrArg (fun j => nI (F j)) (nI_clamp (show 4 * k < 2 ^ 31 by omega))).trans (congrArg nI f0)) ?_)
    refine v_istore_n C [(2, .int (nI 7)), (0, .int (nI k)), (1, .ref fa)] rfl (by decide) dL_length3_5 rfl ?_
    refine v_iload_n C 0 rfl dL_length3_6 rfl ?_
    refine v_iconst (v := 4) C dL_length3_7 (by decide) ?_
    refine v_icmp_eq (tgt := 16) C dL_length3_8 (by decide) (fun c29 => absurd c29 (by decide)) (fun c29 => ?_)
    refine v_iload_n C 0 rfl dL_length3_11 rfl ?_
    refine v_iconst (v := 5) C dL_length3_12 (by decide) ?_
    refine v_icmp_ne (tgt := 22) C dL_length3_13 (by decide) (fun c30 => ?_) (fun c30 => absurd c30 (by decide))
    refine v_iload_n C 0 rfl dL_length3_22 rfl ?_
    refine v_bipush (v := 6) C dL_length3_23 (by decide) ?_
    refine v_icmp_ne (tgt := 30) C dL_length3_25 (by decide) (fun c31 => ?_) (fun c31 => absurd c31 (by decide))
    refine v_aload_n C 2 rfl dL_length3_30 rfl ?_
    refine v_iconst (v := 4) C dL_length3_31 (by decide) ?_
    refine v_iload_n C 1 rfl dL_length3_32 rfl ?_
    refine v_imul C dL_length3_33 (v_eqi (nI_kml k 4 (by decide)) ?_)
    refine v_iconst (v := 1) C dL_length3_34 (by decide) ?_
    refine v_iadd C dL_length3_35 (v_eqi (nI_adk (4 * k) 1 (by decide)) ?_)
    refine v_iald C hF (vpin (show 4 * k + 1 < 60 by omega) (by decide)) dL_length3_36 (v_eqi (y := nI (F (4 * k + 1))) (congrArg (fun j => nI (F j)) (nI_clamp (show 4 * k + 1 < 2 ^ 31 by omega))) ?_)
    refine v_aload_n C 2 rfl dL_length3_37 rfl ?_
    refine v_callS (rest := []) C (c_L_length2 l hl G fa (F (4 * k + 1)) M F A D T lv s h hw he hF (show F (4 * k + 1) < M by omega) (show lv (F (4 * k + 1)) ≤ 2 by omega)) S_L_55 rfl rfl (Nat.le_of_ble_eq_true rfl) ⟨Nat.le_of_ble_eq_true rfl, Nat.le_of_ble_eq_true rfl⟩ ⟨Nat.le_of_ble_eq_true rfl, Nat.le_of_ble_eq_true rfl⟩ dL_length3_38 (fun i34 h34 q34 => ?_)
    obtain ⟨e34, rfl⟩ := q34
    rw [← hX] at e34
    subst e34
    refine v_istore_n C [(3, .int (nI X.length)), (2, .int (nI 7)), (0, .int (nI k)), (1, .ref fa)] rfl (by decide) dL_length3_41 rfl ?_
    refine v_iload_n C 1 rfl dL_length3_42 rfl ?_
    refine v_bipush (v := 7) C dL_length3_43 (by decide) ?_
    refine v_icmp_ne (tgt := 65) C dL_length3_45 (by decide) (fun c35 => absurd c35 (by decide)) (fun c35 => ?_)
    refine v_iload_n C 0 rfl dL_length3_48 rfl ?_
    refine v_iconst (v := 5) C dL_length3_49 (by decide) ?_
    refine v_iadd C dL_length3_50 (v_eqi (nI_adk X.length 5 (by decide)) ?_)
    refine v_aload_n C 3 rfl dL_length3_51 rfl ?_
    refine v_iconst (v := 4) C dL_length3_52 (by decide) ?_
    refine v_iload_n C 2 rfl dL_length3_53 rfl ?_
    refine v_imul C dL_length3_54 (v_eqi (nI_kml k 4 (by decide)) ?_)
    refine v_iconst (v := 2) C dL_length3_55 (by decide) ?_
    refine v_iadd C dL_length3_56 (v_eqi (nI_adk (4 * k) 2 (by decide)) ?_)
    refine v_iald C hF (vpin (show 4 * k + 2 < 60 by omega) (by decide)) dL_length3_57 (v_eqi (y := nI (F (4 * k + 2))) (congrArg (fun j => nI (F j)) (nI_clamp (show 4 * k + 2 < 2 ^ 31 by omega))) ?_)
    refine v_callS (rest := [.int (nI (X.length + 5))]) C (c_L_digits l hl G (F (4 * k + 2)) h (by omega)) S_L_12 rfl rfl (Nat.le_of_ble_eq_true rfl) ⟨Nat.le_of_ble_eq_true rfl, Nat.le_of_ble_eq_true rfl⟩ ⟨Nat.le_of_ble_eq_true rfl, Nat.le_of_ble_eq_true rfl⟩ dL_length3_58 (fun i39 h39 q39 => ?_)
    obtain ⟨e39, rfl⟩ := q39; subst e39
    refine v_iadd C dL_length3_61 (v_eqi (nI_add (X.length + 5) (sb_dg (F (4 * k + 2)))) ?_)
    refine v_goto (tgt := 103) C dL_length3_62 (by decide) ?_
    exact v_iret C hQ hr rfl (Nat.le_of_ble_eq_true rfl) (Nat.le_of_ble_eq_true rfl) dL_length3_103 ⟨by rw [hTX]; refine congrArg nI ?_; simp only [List.length_append, dgl_len, List.length_cons, List.length_nil]; omega, rfl⟩
  · obtain ⟨X, hX⟩ : ∃ X, X = txtOf (T (F (4 * k + 1))) := ⟨_, rfl⟩
    have xl : X.length ≤ 441 := by rw [hX]; exact (he.w6 hw (k := F (4 * k + 1)) (by omega)).txl6 (Nat.le_refl _)
    have hTX : txtOf (T k) = [121, 101, 97, 114, 40] ++ X ++ [41] := by rw [fT, txt_year (he.w6 hw (k := F (4 * k + 1)) (by omega)), hX]
    refine v_aload_n C 1 rfl dL_length3_0 rfl ?_
    refine v_iconst (v := 4) C dL_length3_1 (by decide) ?_
    refine v_iload_n C 0 rfl dL_length3_2 rfl ?_
    refine v_imul C dL_length3_3 (v_eqi (nI_kml k 4 (by decide)) ?_)
    refine v_iald C hF (vpin (show 4 * k < 60 by omega) (by decide)) dL_length3_4 (v_eqi (y := nI 8) ((congrArg (fun j => nI (F j)) (nI_clamp (show 4 * k < 2 ^ 31 by omega))).trans (congrArg nI f0)) ?_)
    refine v_istore_n C [(2, .int (nI 8)), (0, .int (nI k)), (1, .ref fa)] rfl (by decide) dL_length3_5 rfl ?_
    refine v_iload_n C 0 rfl dL_length3_6 rfl ?_
    refine v_iconst (v := 4) C dL_length3_7 (by decide) ?_
    refine v_icmp_eq (tgt := 16) C dL_length3_8 (by decide) (fun c42 => absurd c42 (by decide)) (fun c42 => ?_)
    refine v_iload_n C 0 rfl dL_length3_11 rfl ?_
    refine v_iconst (v := 5) C dL_length3_12 (by decide) ?_
    refine v_icmp_ne (tgt := 22) C dL_length3_13 (by decide) (fun c43 => ?_) (fun c43 => absurd c43 (by decide))
    refine v_iload_n C 0 rfl dL_length3_22 rfl ?_
    refine v_bipush (v := 6) C dL_length3_23 (by decide) ?_
    refine v_icmp_ne (tgt := 30) C dL_length3_25 (by decide) (fun c44 => ?_) (fun c44 => absurd c44 (by decide))
    refine v_aload_n C 2 rfl dL_length3_30 rfl ?_
    refine v_iconst (v := 4) C dL_length3_31 (by decide) ?_
    refine v_iload_n C 1 rfl dL_length3_32 rfl ?_
    refine v_imul C dL_length3_33 (v_eqi (nI_kml k 4 (by decide)) ?_)
    refine v_iconst (v := 1) C dL_length3_34 (by decide) ?_
    refine v_iadd C dL_length3_35 (v_eqi (nI_adk (4 * k) 1 (by decide)) ?_)
    refine v_iald C hF (vpin (show 4 * k + 1 < 60 by omega) (by decide)) dL_length3_36 (v_eqi (y := nI (F (4 * k + 1))) (congrArg (fun j => nI (F j)) (nI_clamp (show 4 * k + 1 < 2 ^ 31 by omega))) ?_)
    refine v_aload_n C 2 rfl dL_length3_37 rfl ?_
    refine v_callS (rest := []) C (c_L_length2 l hl G fa (F (4 * k + 1)) M F A D T lv s h hw he hF (show F (4 * k + 1) < M by omega) (show lv (F (4 * k + 1)) ≤ 2 by omega)) S_L_55 rfl rfl (Nat.le_of_ble_eq_true rfl) ⟨Nat.le_of_ble_eq_true rfl, Nat.le_of_ble_eq_true rfl⟩ ⟨Nat.le_of_ble_eq_true rfl, Nat.le_of_ble_eq_true rfl⟩ dL_length3_38 (fun i47 h47 q47 => ?_)
    obtain ⟨e47, rfl⟩ := q47
    rw [← hX] at e47
    subst e47
    refine v_istore_n C [(3, .int (nI X.length)), (2, .int (nI 8)), (0, .int (nI k)), (1, .ref fa)] rfl (by decide) dL_length3_41 rfl ?_
    refine v_iload_n C 1 rfl dL_length3_42 rfl ?_
    refine v_bipush (v := 7) C dL_length3_43 (by decide) ?_
    refine v_icmp_ne (tgt := 65) C dL_length3_45 (by decide) (fun c48 => ?_) (fun c48 => absurd c48 (by decide))
    refine v_iload_n C 1 rfl dL_length3_65 rfl ?_
    refine v_bipush (v := 8) C dL_length3_66 (by decide) ?_
    refine v_icmp_ne (tgt := 78) C dL_length3_68 (by decide) (fun c49 => absurd c49 (by decide)) (fun c49 => ?_)
    refine v_iload_n C 0 rfl dL_length3_71 rfl ?_
    refine v_bipush (v := 6) C dL_length3_72 (by decide) ?_
    refine v_iadd C dL_length3_74 (v_eqi (nI_adk X.length 6 (by decide)) ?_)
    refine v_goto (tgt := 103) C dL_length3_75 (by decide) ?_
    exact v_iret C hQ hr rfl (Nat.le_of_ble_eq_true rfl) (Nat.le_of_ble_eq_true rfl) dL_length3_103 ⟨by rw [hTX]; refine congrArg nI ?_; simp only [List.length_append, List.length_cons, List.length_nil]; omega, rfl⟩
set_option maxHeartbeats 4000000 in
set_option maxRecDepth 100000 in
theorem c_L_length4 (l : Launch) (hl : l.stackTraces = false) (G : zG) (fa k M : Nat) (F : Nat → Nat) (A D : Nat → Int32) (T : Nat → List Tok) (lv : Nat → Nat) (s : ZS) (h : zH) (hw : WFs s) (he : EV s F A D T lv M) (hF : iC G h fa 60 (fN F)) (hk : k < M) (hv : lv k ≤ 4) : zMet eI l yL_length4 cL_length4 4 (some .int) 16 0 0 G [.int (nI k), .ref fa] h (fun r h2 => r = nI (txtOf (T k)).length ∧ h = h2) := by
  refine con_of hl RL rfl (by decide +kernel) [(0, .int (nI k)), (1, .ref fa)] rfl (Nat.le_of_ble_eq_true rfl) ?_
  intro zp ze zs zm zargs zbelow zmeth zc C hr hin Q hQ
  have hM := he.1
  have hN6 := he.2.1
  obtain ⟨l1, l6, l3, hFE⟩ := he.2.2.1 k hk
  rcases hFE with ⟨f0, f1, fT, fl⟩ | ⟨f0, f1, fT, fl⟩ | ⟨f0, f1, fT, fl⟩ | ⟨f0, f1, f2, fT, fl⟩ | ⟨f0, f1, f2, fT, fl⟩ | ⟨f0, f1, fT, fl⟩
  · have hTX := (congrArg txtOf fT).trans (tx4 f1)
    refine v_aload_n C 1 rfl dL_length4_0 rfl ?_
    refine v_iconst (v := 4) C dL_length4_1 (by decide) ?_
    refine v_iload_n C 0 rfl dL_length4_2 rfl ?_
    refine v_imul C dL_length4_3 (v_eqi (nI_kml k 4 (by decide)) ?_)
    refine v_iald C hF (vpin (show 4 * k < 60 by omega) (by decide)) dL_length4_4 (v_eqi (y := nI 4) ((congrArg (fun j => nI (F j)) (nI_clamp (show 4 * k < 2 ^ 31 by omega))).trans (congrArg nI f0)) ?_)
    refine v_istore_n C [(2, .int (nI 4)), (0, .int (nI k)), (1, .ref fa)] rfl (by decide) dL_length4_5 rfl ?_
    refine v_iload_n C 0 rfl dL_length4_6 rfl ?_
    refine v_iconst (v := 4) C dL_length4_7 (by decide) ?_
    refine v_icmp_eq (tgt := 16) C dL_length4_8 (by decide) (fun c2 => ?_) (fun c2 => absurd c2 (by decide))
    refine v_iload_n C 1 rfl dL_length4_16 rfl ?_
    refine v_aload_n C 2 rfl dL_length4_17 rfl ?_
    refine v_callS (rest := []) C (c_L_length1 l hl G fa k M F A D T lv s h hw he hF hk (by omega)) S_L_40 rfl rfl (Nat.le_of_ble_eq_true rfl) ⟨Nat.le_of_ble_eq_true rfl, Nat.le_of_ble_eq_true rfl⟩ ⟨Nat.le_of_ble_eq_true rfl, Nat.le_of_ble_eq_true rfl⟩ dL_length4_18 (fun i3 h3 q3 => ?_)
    obtain ⟨e3, rfl⟩ := q3
    subst e3
    exact v_iret C hQ hr rfl (Nat.le_of_ble_eq_true rfl) (Nat.le_of_ble_eq_true rfl) dL_length4_21 ⟨rfl, rfl⟩
  · have hTX := (congrArg txtOf fT).trans (tx5 (F (4 * k + 1)))
    have d7 := dg_le7 f1
    refine v_aload_n C 1 rfl dL_length4_0 rfl ?_
    refine v_iconst (v := 4) C dL_length4_1 (by decide) ?_
    refine v_iload_n C 0 rfl dL_length4_2 rfl ?_
    refine v_imul C dL_length4_3 (v_eqi (nI_kml k 4 (by decide)) ?_)
    refine v_iald C hF (vpin (show 4 * k < 60 by omega) (by decide)) dL_length4_4 (v_eqi (y := nI 5) ((congrArg (fun j => nI (F j)) (nI_clamp (show 4 * k < 2 ^ 31 by omega))).trans (congrArg nI f0)) ?_)
    refine v_istore_n C [(2, .int (nI 5)), (0, .int (nI k)), (1, .ref fa)] rfl (by decide) dL_length4_5 rfl ?_
    refine v_iload_n C 0 rfl dL_length4_6 rfl ?_
    refine v_iconst (v := 4) C dL_length4_7 (by decide) ?_
    refine v_icmp_eq (tgt := 16) C dL_length4_8 (by decide) (fun c5 => absurd c5 (by decide)) (fun c5 => ?_)
    refine v_iload_n C 0 rfl dL_length4_11 rfl ?_
    refine v_iconst (v := 5) C dL_length4_12 (by decide) ?_
    refine v_icmp_ne (tgt := 22) C dL_length4_13 (by decide) (fun c6 => absurd c6 (by decide)) (fun c6 => ?_)
    refine v_iload_n C 1 rfl dL_length4_16 rfl ?_
    refine v_aload_n C 2 rfl dL_length4_17 rfl ?_
    refine v_callS (rest := []) C (c_L_length1 l hl G fa k M F A D T lv s h hw he hF hk (by omega)) S_L_40 rfl rfl (Nat.le_of_ble_eq_true rfl) ⟨Nat.le_of_ble_eq_true rfl, Nat.le_of_ble_eq_true rfl⟩ ⟨Nat.le_of_ble_eq_true rfl, Nat.le_of_ble_eq_true rfl⟩ dL_length4_18 (fun i7 h7 q7 => ?_)
    obtain ⟨e7, rfl⟩ := q7
    subst e7
    exact v_iret C hQ hr rfl (Nat.le_of_ble_eq_true rfl) (Nat.le_of_ble_eq_true rfl) dL_length4_21 ⟨rfl, rfl⟩
  · have hTX := (congrArg txtOf fT).trans (tx6 (a := F (4 * k + 1)) (by omega))
    refine v_aload_n C 1 rfl dL_length4_0 rfl ?_
    refine v_iconst (v := 4) C dL_length4_1 (by decide) ?_
    refine v_iload_n C 0 rfl dL_length4_2 rfl ?_
    refine v_imul C dL_length4_3 (v_eqi (nI_kml k 4 (by decide)) ?_)
    refine v_iald C hF (vpin (show 4 * k < 60 by omega) (by decide)) dL_length4_4 (v_eqi (y := nI 6) ((congrArg (fun j => nI (F j)) (nI_clamp (show 4 * k < 2 ^ 31 by omega))).trans (congrArg nI f0)) ?_)
    refine v_istore_n C [(2, .int (nI 6)), (0, .int (nI k)), (1, .ref fa)] rfl (by decide) dL_length4_5 rfl ?_
    refine v_iload_n C 0 rfl dL_length4_6 rfl ?_
    refine v_iconst (v := 4) C dL_length4_7 (by decide) ?_
    refine v_icmp_eq (tgt := 16) C dL_length4_8 (by decide) (fun c9 => absurd c9 (by decide)) (fun c9 => ?_)
    refine v_iload_n C 0 rfl dL_length4_11 rfl ?_
    refine v_iconst (v := 5) C dL_length4_12 (by decide) ?_
    refine v_icmp_ne (tgt := 22) C dL_length4_13 (by decide) (fun c10 => ?_) (fun c10 => absurd c10 (by decide))
    refine v_iload_n C 0 rfl dL_length4_22 rfl ?_
    refine v_bipush (v := 6) C dL_length4_23 (by decide) ?_
    refine v_icmp_ne (tgt := 30) C dL_length4_25 (by decide) (fun c11 => absurd c11 (by decide)) (fun c11 => ?_)
    refine v_iconst (v := 2) C dL_length4_28 (by decide) ?_
    exact v_iret C hQ hr rfl (Nat.le_of_ble_eq_true rfl) (Nat.le_of_ble_eq_true rfl) dL_length4_29 ⟨by rw [hTX]; rfl, rfl⟩
  · obtain ⟨X, hX⟩ : ∃ X, X = txtOf (T (F (4 * k + 1))) := ⟨_, rfl⟩
    have xl : X.length ≤ 441 := by rw [hX]; exact (he.w6 hw (k := F (4 * k + 1)) (by omega)).txl6 (Nat.le_refl _)
    obtain ⟨Y, hY⟩ : ∃ Y, Y = txtOf (T (F (4 * k + 2))) := ⟨_, rfl⟩
    have yl : Y.length ≤ 441 := by rw [hY]; exact (he.w6 hw (k := F (4 * k + 2)) (by omega)).txl6 (Nat.le_refl _)
    have hTX : txtOf (T k) = sjt (F (4 * k)) X Y := by rw [fT, txt_join (he.w6 hw (k := F (4 * k + 1)) (by omega)) (he.w6 hw (k := F (4 * k + 2)) (by omega)) f0, hX, hY]
    refine v_aload_n C 1 rfl dL_length4_0 rfl ?_
    refine v_iconst (v := 4) C dL_length4_1 (by decide) ?_
    refine v_iload_n C 0 rfl dL_length4_2 rfl ?_
    refine v_imul C dL_length4_3 (v_eqi (nI_kml k 4 (by decide)) ?_)
    refine v_iald C hF (vpin (show 4 * k < 60 by omega) (by decide)) dL_length4_4 (v_eqi (y := nI (F (4 * k))) ((congrArg (fun j => nI (F j)) (nI_clamp (show 4 * k < 2 ^ 31 by omega))).trans (congrArg nI rfl)) ?_)
    refine v_istore_n C [(2, .int (nI (F (4 * k)))), (0, .int (nI k)), (1, .ref fa)] rfl (by decide) dL_length4_5 rfl ?_
    refine v_iload_n C 0 rfl dL_length4_6 rfl ?_
    refine v_iconst (v := 4) C dL_length4_7 (by decide) ?_
    refine v_icmp_eq (tgt := 16) C dL_length4_8 (by decide) (fun c13 => absurd ((nk_eq (a := F (4 * k)) 4 (by decide) (by omega) (by decide)).mp c13) (by omega)) (fun c13 => ?_)
    have c13 := (nk_eq_f (a := (F (4 * k))) 4 (by decide) (by omega) (by decide)).mp c13
    refine v_iload_n C 0 rfl dL_length4_11 rfl ?_
    refine v_iconst (v := 5) C dL_length4_12 (by decide) ?_
    refine v_icmp_ne (tgt := 22) C dL_length4_13 (by decide) (fun c14 => ?_) (fun c14 => absurd ((nk_ne_f (a := F (4 * k)) 5 (by decide) (by omega) (by decide)).mp c14) (by omega))
    have c14 := (nk_ne (a := (F (4 * k))) 5 (by decide) (by omega) (by decide)).mp c14
    refine v_iload_n C 0 rfl dL_length4_22 rfl ?_
    refine v_bipush (v := 6) C dL_length4_23 (by decide) ?_
    refine v_icmp_ne (tgt := 30) C dL_length4_25 (by decide) (fun c15 => ?_) (fun c15 => absurd ((nk_ne_f (a := F (4 * k)) 6 (by decide) (by omega) (by decide)).mp c15) (by omega))
    have c15 := (nk_ne (a := (F (4 * k))) 6 (by decide) (by omega) (by decide)).mp c15
    refine v_aload_n C 2 rfl dL_length4_30 rfl ?_
    refine v_iconst (v := 4) C dL_length4_31 (by decide) ?_
    refine v_iload_n C 1 rfl dL_length4_32 rfl ?_
    refine v_imul C dL_length4_33 (v_eqi (nI_kml k 4 (by decide)) ?_)
    refine v_iconst (v := 1) C dL_length4_34 (by decide) ?_
    refine v_iadd C dL_length4_35 (v_eqi (nI_adk (4 * k) 1 (by decide)) ?_)
    refine v_iald C hF (vpin (show 4 * k + 1 < 60 by omega) (by decide)) dL_length4_36 (v_eqi (y := nI (F (4 * k + 1))) (congrArg (fun j => nI (F j)) (nI_clamp (show 4 * k + 1 < 2 ^ 31 by omega))) ?_)
    refine v_aload_n C 2 rfl dL_length4_37 rfl ?_
    refine v_callS (rest := []) C (c_L_length3 l hl G fa (F (4 * k + 1)) M F A D T lv s h hw he hF (show F (4 * k + 1) < M by omega) (show lv (F (4 * k + 1)) ≤ 3 by omega)) S_L_64 rfl rfl (Nat.le_of_ble_eq_true rfl) ⟨Nat.le_of_ble_eq_true rfl, Nat.le_of_ble_eq_true rfl⟩ ⟨Nat.le_of_ble_eq_true rfl, Nat.le_of_ble_eq_true rfl⟩ dL_length4_38 (fun i18 h18 q18 => ?_)
    obtain ⟨e18, rfl⟩ := q18
    rw [← hX] at e18
    subst e18
    refine v_istore_n C [(3, .int (nI X.length)), (2, .int (nI (F (4 * k)))), (0, .int (nI k)), (1, .ref fa)] rfl (by decide) dL_length4_41 rfl ?_
    refine v_iload_n C 1 rfl dL_length4_42 rfl ?_
    refine v_bipush (v := 7) C dL_length4_43 (by decide) ?_
    refine v_icmp_ne (tgt := 65) C dL_length4_45 (by decide) (fun c19 => ?_) (fun c19 => absurd ((nk_ne_f (a := F (4 * k)) 7 (by decide) (by omega) (by decide)).mp c19) (by omega))
    have c19 := (nk_ne (a := (F (4 * k))) 7 (by decide) (by omega) (by decide)).mp c19
    refine v_iload_n C 1 rfl dL_length4_65 rfl ?_
    refine v_bipush (v := 8) C dL_length4_66 (by decide) ?_
    refine v_icmp_ne (tgt := 78) C dL_length4_68 (by decide) (fun c20 => ?_) (fun c20 => absurd ((nk_ne_f (a := F (4 * k)) 8 (by decide) (by omega) (by decide)).mp c20) (by omega))
    have c20 := (nk_ne (a := (F (4 * k))) 8 (by decide) (by omega) (by decide)).mp c20
    refine v_iload_n C 0 rfl dL_length4_78 rfl ?_
    refine v_aload_n C 3 rfl dL_length4_79 rfl ?_
    refine v_iconst (v := 4) C dL_length4_80 (by decide) ?_
    refine v_iload_n C 2 rfl dL_length4_81 rfl ?_
    refine v_imul C dL_length4_82 (v_eqi (nI_kml k 4 (by decide)) ?_)
    refine v_iconst (v := 2) C dL_length4_83 (by decide) ?_
    refine v_iadd C dL_length4_84 (v_eqi (nI_adk (4 * k) 2 (by decide)) ?_)
    refine v_iald C hF (vpin (show 4 * k + 2 < 60 by omega) (by decide)) dL_length4_85 (v_eqi (y := nI (F (4 * k + 2))) (congrArg (fun j => nI (F j)) (nI_clamp (show 4 * k + 2 < 2 ^ 31 by omega))) ?_)
    refine v_aload_n C 3 rfl dL_length4_86 rfl ?_
    refine v_callS (rest := [.int (nI X.length)]) C (c_L_length3 l hl G fa (F (4 * k + 2)) M F A D T lv s h hw he hF (show F (4 * k + 2) < M by omega) (show lv (F (4 * k + 2)) ≤ 3 by omega)) S_L_64 rfl rfl (Nat.le_of_ble_eq_true rfl) ⟨Nat.le_of_ble_eq_true rfl, Nat.le_of_ble_eq_true rfl⟩ ⟨Nat.le_of_ble_eq_true rfl, Nat.le_of_ble_eq_true rfl⟩ dL_length4_87 (fun i23 h23 q23 => ?_)
    obtain ⟨e23, rfl⟩ := q23
    rw [← hY] at e23
    subst e23
    refine v_iadd C dL_length4_90 (v_eqi (nI_add X.length Y.length) ?_)
    refine v_iload_n C 1 rfl dL_length4_91 rfl ?_
    refine v_iconst (v := 2) C dL_length4_92 (by decide) ?_
    refine v_icmp_ge (tgt := 100) C dL_length4_93 (by decide) (fun c25 => ?_) (fun c25 => ?_)
    · have c25 := (nk_ge (a := (F (4 * k))) 2 (by decide) (by omega) (by decide)).mp c25
      refine v_bipush (v := 7) C dL_length4_100 (by decide) ?_
      refine v_iadd C dL_length4_102 (v_eqi (nI_adk (X.length + Y.length) 7 (by decide)) ?_)
      exact v_iret C hQ hr rfl (Nat.le_of_ble_eq_true rfl) (Nat.le_of_ble_eq_true rfl) dL_length4_103 ⟨by rw [hTX, sjt_ln f0, if_neg (by omega)], rfl⟩
    · have c25 := (nk_ge_f (a := (F (4 * k))) 2 (by decide) (by omega) (by decide)).mp c25
      refine v_iconst (v := 5) C dL_length4_96 (by decide) ?_
      refine v_goto (tgt := 102) C dL_length4_97 (by decide) ?_
      refine v_iadd C dL_length4_102 (v_eqi (nI_adk (X.length + Y.length) 5 (by decide)) ?_)
      exact v_iret C hQ hr rfl (Nat.le_of_ble_eq_true rfl) (Nat.le_of_ble_eq_true rfl) dL_length4_103 ⟨by rw [hTX, sjt_ln f0, if_pos (by omega)], rfl⟩
  · obtain ⟨X, hX⟩ : ∃ X, X = txtOf (T (F (4 * k + 1))) := ⟨_, rfl⟩
    have xl : X.length ≤ 441 := by rw [hX]; exact (he.w6 hw (k := F (4 * k + 1)) (by omega)).txl6 (Nat.le_refl _)
    have hTX : txtOf (T k) = dgl (F (4 * k + 2)) ++ [37, 32, 111, 102, 32] ++ X := by rw [fT, txt_share (he.w6 hw (k := F (4 * k + 1)) (by omega)), hX]
    have d3 := dg_le3 f2
    refine v_aload_n C 1 rfl dL_length4_0 rfl ?_
    refine v_iconst (v := 4) C dL_length4_1 (by decide) ?_
    refine v_iload_n C 0 rfl dL_length4_2 rfl ?_
    refine v_imul C dL_length4_3 (v_eqi (nI_kml k 4 (by decide)) ?_)
    refine v_iald C hF (vpin (show 4 * k < 60 by omega) (by decide)) dL_length4_4 (v_eqi (y := nI 7) ((congrArg (fun j => nI (F j)) (nI_clamp (show 4 * k < 2 ^ 31 by omega))).trans (congrArg nI f0)) ?_)
    refine v_istore_n C [(2, .int (nI 7)), (0, .int (nI k)), (1, .ref fa)] rfl (by decide) dL_length4_5 rfl ?_
    refine v_iload_n C 0 rfl dL_length4_6 rfl ?_
    refine v_iconst (v := 4) C dL_length4_7 (by decide) ?_
    refine v_icmp_eq (tgt := 16) C dL_length4_8 (by decide) (fun c29 => absurd c29 (by decide)) (fun c29 => ?_)
    refine v_iload_n C 0 rfl dL_length4_11 rfl ?_
    refine v_iconst (v := 5) C dL_length4_12 (by decide) ?_
    refine v_icmp_ne (tgt := 22) C dL_length4_13 (by decide) (fun c30 => ?_) (fun c30 => absurd c30 (by decide))
    refine v_iload_n C 0 rfl dL_length4_22 rfl ?_
    refine v_bipush (v := 6) C dL_length4_23 (by decide) ?_
    refine v_icmp_ne (tgt := 30) C dL_length4_25 (by decide) (fun c31 => ?_) (fun c31 => absurd c31 (by decide))
    refine v_aload_n C 2 rfl dL_length4_30 rfl ?_
    refine v_iconst (v := 4) C dL_length4_31 (by decide) ?_
    refine v_iload_n C 1 rfl dL_length4_32 rfl ?_
    refine v_imul C dL_length4_33 (v_eqi (nI_kml k 4 (by decide)) ?_)
    refine v_iconst (v := 1) C dL_length4_34 (by decide) ?_
    refine v_iadd C dL_length4_35 (v_eqi (nI_adk (4 * k) 1 (by decide)) ?_)
    refine v_iald C hF (vpin (show 4 * k + 1 < 60 by omega) (by decide)) dL_length4_36 (v_eqi (y := nI (F (4 * k + 1))) (congrArg (fun j => nI (F j)) (nI_clamp (show 4 * k + 1 < 2 ^ 31 by omega))) ?_)
    refine v_aload_n C 2 rfl dL_length4_37 rfl ?_
    refine v_callS (rest := []) C (c_L_length3 l hl G fa (F (4 * k + 1)) M F A D T lv s h hw he hF (show F (4 * k + 1) < M by omega) (show lv (F (4 * k + 1)) ≤ 3 by omega)) S_L_64 rfl rfl (Nat.le_of_ble_eq_true rfl) ⟨Nat.le_of_ble_eq_true rfl, Nat.le_of_ble_eq_true rfl⟩ ⟨Nat.le_of_ble_eq_true rfl, Nat.le_of_ble_eq_true rfl⟩ dL_length4_38 (fun i34 h34 q34 => ?_)
    obtain ⟨e34, rfl⟩ := q34
    rw [← hX] at e34
    subst e34
    refine v_istore_n C [(3, .int (nI X.length)), (2, .int (nI 7)), (0, .int (nI k)), (1, .ref fa)] rfl (by decide) dL_length4_41 rfl ?_
    refine v_iload_n C 1 rfl dL_length4_42 rfl ?_
    refine v_bipush (v := 7) C dL_length4_43 (by decide) ?_
    refine v_icmp_ne (tgt := 65) C dL_length4_45 (by decide) (fun c35 => absurd c35 (by decide)) (fun c35 => ?_)
    refine v_iload_n C 0 rfl dL_length4_48 rfl ?_
    refine v_iconst (v := 5) C dL_length4_49 (by decide) ?_
    refine v_iadd C dL_length4_50 (v_eqi (nI_adk X.length 5 (by decide)) ?_)
    refine v_aload_n C 3 rfl dL_length4_51 rfl ?_
    refine v_iconst (v := 4) C dL_length4_52 (by decide) ?_
    refine v_iload_n C 2 rfl dL_length4_53 rfl ?_
    refine v_imul C dL_length4_54 (v_eqi (nI_kml k 4 (by decide)) ?_)
    refine v_iconst (v := 2) C dL_length4_55 (by decide) ?_
    refine v_iadd C dL_length4_56 (v_eqi (nI_adk (4 * k) 2 (by decide)) ?_)
    refine v_iald C hF (vpin (show 4 * k + 2 < 60 by omega) (by decide)) dL_length4_57 (v_eqi (y := nI (F (4 * k + 2))) (congrArg (fun j => nI (F j)) (nI_clamp (show 4 * k + 2 < 2 ^ 31 by omega))) ?_)
    refine v_callS (rest := [.int (nI (X.length + 5))]) C (c_L_digits l hl G (F (4 * k + 2)) h (by omega)) S_L_12 rfl rfl (Nat.le_of_ble_eq_true rfl) ⟨Nat.le_of_ble_eq_true rfl, Nat.le_of_ble_eq_true rfl⟩ ⟨Nat.le_of_ble_eq_true rfl, Nat.le_of_ble_eq_true rfl⟩ dL_length4_58 (fun i39 h39 q39 => ?_)
    obtain ⟨e39, rfl⟩ := q39; subst e39
    refine v_iadd C dL_length4_61 (v_eqi (nI_add (X.length + 5) (sb_dg (F (4 * k + 2)))) ?_)
    refine v_goto (tgt := 103) C dL_length4_62 (by decide) ?_
    exact v_iret C hQ hr rfl (Nat.le_of_ble_eq_true rfl) (Nat.le_of_ble_eq_true rfl) dL_length4_103 ⟨by rw [hTX]; refine congrArg nI ?_; simp only [List.length_append, dgl_len, List.length_cons, List.length_nil]; omega, rfl⟩
  · obtain ⟨X, hX⟩ : ∃ X, X = txtOf (T (F (4 * k + 1))) := ⟨_, rfl⟩
    have xl : X.length ≤ 441 := by rw [hX]; exact (he.w6 hw (k := F (4 * k + 1)) (by omega)).txl6 (Nat.le_refl _)
    have hTX : txtOf (T k) = [121, 101, 97, 114, 40] ++ X ++ [41] := by rw [fT, txt_year (he.w6 hw (k := F (4 * k + 1)) (by omega)), hX]
    refine v_aload_n C 1 rfl dL_length4_0 rfl ?_
    refine v_iconst (v := 4) C dL_length4_1 (by decide) ?_
    refine v_iload_n C 0 rfl dL_length4_2 rfl ?_
    refine v_imul C dL_length4_3 (v_eqi (nI_kml k 4 (by decide)) ?_)
    refine v_iald C hF (vpin (show 4 * k < 60 by omega) (by decide)) dL_length4_4 (v_eqi (y := nI 8) ((congrArg (fun j => nI (F j)) (nI_clamp (show 4 * k < 2 ^ 31 by omega))).trans (congrArg nI f0)) ?_)
    refine v_istore_n C [(2, .int (nI 8)), (0, .int (nI k)), (1, .ref fa)] rfl (by decide) dL_length4_5 rfl ?_
    refine v_iload_n C 0 rfl dL_length4_6 rfl ?_
    refine v_iconst (v := 4) C dL_length4_7 (by decide) ?_
    refine v_icmp_eq (tgt := 16) C dL_length4_8 (by decide) (fun c42 => absurd c42 (by decide)) (fun c42 => ?_)
    refine v_iload_n C 0 rfl dL_length4_11 rfl ?_
    refine v_iconst (v := 5) C dL_length4_12 (by decide) ?_
    refine v_icmp_ne (tgt := 22) C dL_length4_13 (by decide) (fun c43 => ?_) (fun c43 => absurd c43 (by decide))
    refine v_iload_n C 0 rfl dL_length4_22 rfl ?_
    refine v_bipush (v := 6) C dL_length4_23 (by decide) ?_
    refine v_icmp_ne (tgt := 30) C dL_length4_25 (by decide) (fun c44 => ?_) (fun c44 => absurd c44 (by decide))
    refine v_aload_n C 2 rfl dL_length4_30 rfl ?_
    refine v_iconst (v := 4) C dL_length4_31 (by decide) ?_
    refine v_iload_n C 1 rfl dL_length4_32 rfl ?_
    refine v_imul C dL_length4_33 (v_eqi (nI_kml k 4 (by decide)) ?_)
    refine v_iconst (v := 1) C dL_length4_34 (by decide) ?_
    refine v_iadd C dL_length4_35 (v_eqi (nI_adk (4 * k) 1 (by decide)) ?_)
    refine v_iald C hF (vpin (show 4 * k + 1 < 60 by omega) (by decide)) dL_length4_36 (v_eqi (y := nI (F (4 * k + 1))) (congrArg (fun j => nI (F j)) (nI_clamp (show 4 * k + 1 < 2 ^ 31 by omega))) ?_)
    refine v_aload_n C 2 rfl dL_length4_37 rfl ?_
    refine v_callS (rest := []) C (c_L_length3 l hl G fa (F (4 * k + 1)) M F A D T lv s h hw he hF (show F (4 * k + 1) < M by omega) (show lv (F (4 * k + 1)) ≤ 3 by omega)) S_L_64 rfl rfl (Nat.le_of_ble_eq_true rfl) ⟨Nat.le_of_ble_eq_true rfl, Nat.le_of_ble_eq_true rfl⟩ ⟨Nat.le_of_ble_eq_true rfl, Nat.le_of_ble_eq_true rfl⟩ dL_length4_38 (fun i47 h47 q47 => ?_)
    obtain ⟨e47, rfl⟩ := q47
    rw [← hX] at e47
    subst e47
    refine v_istore_n C [(3, .int (nI X.length)), (2, .int (nI 8)), (0, .int (nI k)), (1, .ref fa)] rfl (by decide) dL_length4_41 rfl ?_
    refine v_iload_n C 1 rfl dL_length4_42 rfl ?_
    refine v_bipush (v := 7) C dL_length4_43 (by decide) ?_
    refine v_icmp_ne (tgt := 65) C dL_length4_45 (by decide) (fun c48 => ?_) (fun c48 => absurd c48 (by decide))
    refine v_iload_n C 1 rfl dL_length4_65 rfl ?_
    refine v_bipush (v := 8) C dL_length4_66 (by decide) ?_
    refine v_icmp_ne (tgt := 78) C dL_length4_68 (by decide) (fun c49 => absurd c49 (by decide)) (fun c49 => ?_)
    refine v_iload_n C 0 rfl dL_length4_71 rfl ?_
    refine v_bipush (v := 6) C dL_length4_72 (by decide) ?_
    refine v_iadd C dL_length4_74 (v_eqi (nI_adk X.length 6 (by decide)) ?_)
    refine v_goto (tgt := 103) C dL_length4_75 (by decide) ?_
    exact v_iret C hQ hr rfl (Nat.le_of_ble_eq_true rfl) (Nat.le_of_ble_eq_true rfl) dL_length4_103 ⟨by rw [hTX]; refine congrArg nI ?_; simp only [List.length_append, List.length_cons, List.length_nil]; omega, rfl⟩
set_option maxHeartbeats 4000000 in
set_option maxRecDepth 100000 in
theorem c_L_length5 (l : Launch) (hl : l.stackTraces = false) (G : zG) (fa k M : Nat) (F : Nat → Nat) (A D : Nat → Int32) (T : Nat → List Tok) (lv : Nat → Nat) (s : ZS) (h : zH) (hw : WFs s) (he : EV s F A D T lv M) (hF : iC G h fa 60 (fN F)) (hk : k < M) (hv : lv k ≤ 5) : zMet eI l yL_length5 cL_length5 4 (some .int) 17 0 0 G [.int (nI k), .ref fa] h (fun r h2 => r = nI (txtOf (T k)).length ∧ h = h2) := by
  refine con_of hl RL rfl (by decide +kernel) [(0, .int (nI k)), (1, .ref fa)] rfl (Nat.le_of_ble_eq_true rfl) ?_
  intro zp ze zs zm zargs zbelow zmeth zc C hr hin Q hQ
  have hM := he.1
  have hN6 := he.2.1
  obtain ⟨l1, l6, l3, hFE⟩ := he.2.2.1 k hk
  rcases hFE with ⟨f0, f1, fT, fl⟩ | ⟨f0, f1, fT, fl⟩ | ⟨f0, f1, fT, fl⟩ | ⟨f0, f1, f2, fT, fl⟩ | ⟨f0, f1, f2, fT, fl⟩ | ⟨f0, f1, fT, fl⟩
  · have hTX := (congrArg txtOf fT).trans (tx4 f1)
    refine v_aload_n C 1 rfl dL_length5_0 rfl ?_
    refine v_iconst (v := 4) C dL_length5_1 (by decide) ?_
    refine v_iload_n C 0 rfl dL_length5_2 rfl ?_
    refine v_imul C dL_length5_3 (v_eqi (nI_kml k 4 (by decide)) ?_)
    refine v_iald C hF (vpin (show 4 * k < 60 by omega) (by decide)) dL_length5_4 (v_eqi (y := nI 4) ((congrArg (fun j => nI (F j)) (nI_clamp (show 4 * k < 2 ^ 31 by omega))).trans (congrArg nI f0)) ?_)
    refine v_istore_n C [(2, .int (nI 4)), (0, .int (nI k)), (1, .ref fa)] rfl (by decide) dL_length5_5 rfl ?_
    refine v_iload_n C 0 rfl dL_length5_6 rfl ?_
    refine v_iconst (v := 4) C dL_length5_7 (by decide) ?_
    refine v_icmp_eq (tgt := 16) C dL_length5_8 (by decide) (fun c2 => ?_) (fun c2 => absurd c2 (by decide))
    refine v_iload_n C 1 rfl dL_length5_16 rfl ?_
    refine v_aload_n C 2 rfl dL_length5_17 rfl ?_
    refine v_callS (rest := []) C (c_L_length1 l hl G fa k M F A D T lv s h hw he hF hk (by omega)) S_L_40 rfl rfl (Nat.le_of_ble_eq_true rfl) ⟨Nat.le_of_ble_eq_true rfl, Nat.le_of_ble_eq_true rfl⟩ ⟨Nat.le_of_ble_eq_true rfl, Nat.le_of_ble_eq_true rfl⟩ dL_length5_18 (fun i3 h3 q3 => ?_)
    obtain ⟨e3, rfl⟩ := q3
    subst e3
    exact v_iret C hQ hr rfl (Nat.le_of_ble_eq_true rfl) (Nat.le_of_ble_eq_true rfl) dL_length5_21 ⟨rfl, rfl⟩
  · have hTX := (congrArg txtOf fT).trans (tx5 (F (4 * k + 1)))
    have d7 := dg_le7 f1
    refine v_aload_n C 1 rfl dL_length5_0 rfl ?_
    refine v_iconst (v := 4) C dL_length5_1 (by decide) ?_
    refine v_iload_n C 0 rfl dL_length5_2 rfl ?_
    refine v_imul C dL_length5_3 (v_eqi (nI_kml k 4 (by decide)) ?_)
    refine v_iald C hF (vpin (show 4 * k < 60 by omega) (by decide)) dL_length5_4 (v_eqi (y := nI 5) ((congrArg (fun j => nI (F j)) (nI_clamp (show 4 * k < 2 ^ 31 by omega))).trans (congrArg nI f0)) ?_)
    refine v_istore_n C [(2, .int (nI 5)), (0, .int (nI k)), (1, .ref fa)] rfl (by decide) dL_length5_5 rfl ?_
    refine v_iload_n C 0 rfl dL_length5_6 rfl ?_
    refine v_iconst (v := 4) C dL_length5_7 (by decide) ?_
    refine v_icmp_eq (tgt := 16) C dL_length5_8 (by decide) (fun c5 => absurd c5 (by decide)) (fun c5 => ?_)
    refine v_iload_n C 0 rfl dL_length5_11 rfl ?_
    refine v_iconst (v := 5) C dL_length5_12 (by decide) ?_
    refine v_icmp_ne (tgt := 22) C dL_length5_13 (by decide) (fun c6 => absurd c6 (by decide)) (fun c6 => ?_)
    refine v_iload_n C 1 rfl dL_length5_16 rfl ?_
    refine v_aload_n C 2 rfl dL_length5_17 rfl ?_
    refine v_callS (rest := []) C (c_L_length1 l hl G fa k M F A D T lv s h hw he hF hk (by omega)) S_L_40 rfl rfl (Nat.le_of_ble_eq_true rfl) ⟨Nat.le_of_ble_eq_true rfl, Nat.le_of_ble_eq_true rfl⟩ ⟨Nat.le_of_ble_eq_true rfl, Nat.le_of_ble_eq_true rfl⟩ dL_length5_18 (fun i7 h7 q7 => ?_)
    obtain ⟨e7, rfl⟩ := q7
    subst e7
    exact v_iret C hQ hr rfl (Nat.le_of_ble_eq_true rfl) (Nat.le_of_ble_eq_true rfl) dL_length5_21 ⟨rfl, rfl⟩
  · have hTX := (congrArg txtOf fT).trans (tx6 (a := F (4 * k + 1)) (by omega))
    refine v_aload_n C 1 rfl dL_length5_0 rfl ?_
    refine v_iconst (v := 4) C dL_length5_1 (by decide) ?_
    refine v_iload_n C 0 rfl dL_length5_2 rfl ?_
    refine v_imul C dL_length5_3 (v_eqi (nI_kml k 4 (by decide)) ?_)
    refine v_iald C hF (vpin (show 4 * k < 60 by omega) (by decide)) dL_length5_4 (v_eqi (y := nI 6) ((congrArg (fun j => nI (F j)) (nI_clamp (show 4 * k < 2 ^ 31 by omega))).trans (congrArg nI f0)) ?_)
    refine v_istore_n C [(2, .int (nI 6)), (0, .int (nI k)), (1, .ref fa)] rfl (by decide) dL_length5_5 rfl ?_
    refine v_iload_n C 0 rfl dL_length5_6 rfl ?_
    refine v_iconst (v := 4) C dL_length5_7 (by decide) ?_
    refine v_icmp_eq (tgt := 16) C dL_length5_8 (by decide) (fun c9 => absurd c9 (by decide)) (fun c9 => ?_)
    refine v_iload_n C 0 rfl dL_length5_11 rfl ?_
    refine v_iconst (v := 5) C dL_length5_12 (by decide) ?_
    refine v_icmp_ne (tgt := 22) C dL_length5_13 (by decide) (fun c10 => ?_) (fun c10 => absurd c10 (by decide))
    refine v_iload_n C 0 rfl dL_length5_22 rfl ?_
    refine v_bipush (v := 6) C dL_length5_23 (by decide) ?_
    refine v_icmp_ne (tgt := 30) C dL_length5_25 (by decide) (fun c11 => absurd c11 (by decide)) (fun c11 => ?_)
    refine v_iconst (v := 2) C dL_length5_28 (by decide) ?_
    exact v_iret C hQ hr rfl (Nat.le_of_ble_eq_true rfl) (Nat.le_of_ble_eq_true rfl) dL_length5_29 ⟨by rw [hTX]; rfl, rfl⟩
  · obtain ⟨X, hX⟩ : ∃ X, X = txtOf (T (F (4 * k + 1))) := ⟨_, rfl⟩
    have xl : X.length ≤ 441 := by rw [hX]; exact (he.w6 hw (k := F (4 * k + 1)) (by omega)).txl6 (Nat.le_refl _)
    obtain ⟨Y, hY⟩ : ∃ Y, Y = txtOf (T (F (4 * k + 2))) := ⟨_, rfl⟩
    have yl : Y.length ≤ 441 := by rw [hY]; exact (he.w6 hw (k := F (4 * k + 2)) (by omega)).txl6 (Nat.le_refl _)
    have hTX : txtOf (T k) = sjt (F (4 * k)) X Y := by rw [fT, txt_join (he.w6 hw (k := F (4 * k + 1)) (by omega)) (he.w6 hw (k := F (4 * k + 2)) (by omega)) f0, hX, hY]
    refine v_aload_n C 1 rfl dL_length5_0 rfl ?_
    refine v_iconst (v := 4) C dL_length5_1 (by decide) ?_
    refine v_iload_n C 0 rfl dL_length5_2 rfl ?_
    refine v_imul C dL_length5_3 (v_eqi (nI_kml k 4 (by decide)) ?_)
    refine v_iald C hF (vpin (show 4 * k < 60 by omega) (by decide)) dL_length5_4 (v_eqi (y := nI (F (4 * k))) ((congrArg (fun j => nI (F j)) (nI_clamp (show 4 * k < 2 ^ 31 by omega))).trans (congrArg nI rfl)) ?_)
    refine v_istore_n C [(2, .int (nI (F (4 * k)))), (0, .int (nI k)), (1, .ref fa)] rfl (by decide) dL_length5_5 rfl ?_
    refine v_iload_n C 0 rfl dL_length5_6 rfl ?_
    refine v_iconst (v := 4) C dL_length5_7 (by decide) ?_
    refine v_icmp_eq (tgt := 16) C dL_length5_8 (by decide) (fun c13 => absurd ((nk_eq (a := F (4 * k)) 4 (by decide) (by omega) (by decide)).mp c13) (by omega)) (fun c13 => ?_)
    have c13 := (nk_eq_f (a := (F (4 * k))) 4 (by decide) (by omega) (by decide)).mp c13
    refine v_iload_n C 0 rfl dL_length5_11 rfl ?_
    refine v_iconst (v := 5) C dL_length5_12 (by decide) ?_
    refine v_icmp_ne (tgt := 22) C dL_length5_13 (by decide) (fun c14 => ?_) (fun c14 => absurd ((nk_ne_f (a := F (4 * k)) 5 (by decide) (by omega) (by decide)).mp c14) (by omega))
    have c14 := (nk_ne (a := (F (4 * k))) 5 (by decide) (by omega) (by decide)).mp c14
    refine v_iload_n C 0 rfl dL_length5_22 rfl ?_
    refine v_bipush (v := 6) C dL_length5_23 (by decide) ?_
    refine v_icmp_ne (tgt := 30) C dL_length5_25 (by decide) (fun c15 => ?_) (fun c15 => absurd ((nk_ne_f (a := F (4 * k)) 6 (by decide) (by omega) (by decide)).mp c15) (by omega))
    have c15 := (nk_ne (a := (F (4 * k))) 6 (by decide) (by omega) (by decide)).mp c15
    refine v_aload_n C 2 rfl dL_length5_30 rfl ?_
    refine v_iconst (v := 4) C dL_length5_31 (by decide) ?_
    refine v_iload_n C 1 rfl dL_length5_32 rfl ?_
    refine v_imul C dL_length5_33 (v_eqi (nI_kml k 4 (by decide)) ?_)
    refine v_iconst (v := 1) C dL_length5_34 (by decide) ?_
    refine v_iadd C dL_length5_35 (v_eqi (nI_adk (4 * k) 1 (by decide)) ?_)
    refine v_iald C hF (vpin (show 4 * k + 1 < 60 by omega) (by decide)) dL_length5_36 (v_eqi (y := nI (F (4 * k + 1))) (congrArg (fun j => nI (F j)) (nI_clamp (show 4 * k + 1 < 2 ^ 31 by omega))) ?_)
    refine v_aload_n C 2 rfl dL_length5_37 rfl ?_
    refine v_callS (rest := []) C (c_L_length4 l hl G fa (F (4 * k + 1)) M F A D T lv s h hw he hF (show F (4 * k + 1) < M by omega) (show lv (F (4 * k + 1)) ≤ 4 by omega)) S_L_73 rfl rfl (Nat.le_of_ble_eq_true rfl) ⟨Nat.le_of_ble_eq_true rfl, Nat.le_of_ble_eq_true rfl⟩ ⟨Nat.le_of_ble_eq_true rfl, Nat.le_of_ble_eq_true rfl⟩ dL_length5_38 (fun i18 h18 q18 => ?_)
    obtain ⟨e18, rfl⟩ := q18
    rw [← hX] at e18
    subst e18
    refine v_istore_n C [(3, .int (nI X.length)), (2, .int (nI (F (4 * k)))), (0, .int (nI k)), (1, .ref fa)] rfl (by decide) dL_length5_41 rfl ?_
    refine v_iload_n C 1 rfl dL_length5_42 rfl ?_
    refine v_bipush (v := 7) C dL_length5_43 (by decide) ?_
    refine v_icmp_ne (tgt := 65) C dL_length5_45 (by decide) (fun c19 => ?_) (fun c19 => absurd ((nk_ne_f (a := F (4 * k)) 7 (by decide) (by omega) (by decide)).mp c19) (by omega))
    have c19 := (nk_ne (a := (F (4 * k))) 7 (by decide) (by omega) (by decide)).mp c19
    refine v_iload_n C 1 rfl dL_length5_65 rfl ?_
    refine v_bipush (v := 8) C dL_length5_66 (by decide) ?_
    refine v_icmp_ne (tgt := 78) C dL_length5_68 (by decide) (fun c20 => ?_) (fun c20 => absurd ((nk_ne_f (a := F (4 * k)) 8 (by decide) (by omega) (by decide)).mp c20) (by omega))
    have c20 := (nk_ne (a := (F (4 * k))) 8 (by decide) (by omega) (by decide)).mp c20
    refine v_iload_n C 0 rfl dL_length5_78 rfl ?_
    refine v_aload_n C 3 rfl dL_length5_79 rfl ?_
    refine v_iconst (v := 4) C dL_length5_80 (by decide) ?_
    refine v_iload_n C 2 rfl dL_length5_81 rfl ?_
    refine v_imul C dL_length5_82 (v_eqi (nI_kml k 4 (by decide)) ?_)
    refine v_iconst (v := 2) C dL_length5_83 (by decide) ?_
    refine v_iadd C dL_length5_84 (v_eqi (nI_adk (4 * k) 2 (by decide)) ?_)
    refine v_iald C hF (vpin (show 4 * k + 2 < 60 by omega) (by decide)) dL_length5_85 (v_eqi (y := nI (F (4 * k + 2))) (congrArg (fun j => nI (F j)) (nI_clamp (show 4 * k + 2 < 2 ^ 31 by omega))) ?_)
    refine v_aload_n C 3 rfl dL_length5_86 rfl ?_
    refine v_callS (rest := [.int (nI X.length)]) C (c_L_length4 l hl G fa (F (4 * k + 2)) M F A D T lv s h hw he hF (show F (4 * k + 2) < M by omega) (show lv (F (4 * k + 2)) ≤ 4 by omega)) S_L_73 rfl rfl (Nat.le_of_ble_eq_true rfl) ⟨Nat.le_of_ble_eq_true rfl, Nat.le_of_ble_eq_true rfl⟩ ⟨Nat.le_of_ble_eq_true rfl, Nat.le_of_ble_eq_true rfl⟩ dL_length5_87 (fun i23 h23 q23 => ?_)
    obtain ⟨e23, rfl⟩ := q23
    rw [← hY] at e23
    subst e23
    refine v_iadd C dL_length5_90 (v_eqi (nI_add X.length Y.length) ?_)
    refine v_iload_n C 1 rfl dL_length5_91 rfl ?_
    refine v_iconst (v := 2) C dL_length5_92 (by decide) ?_
    refine v_icmp_ge (tgt := 100) C dL_length5_93 (by decide) (fun c25 => ?_) (fun c25 => ?_)
    · have c25 := (nk_ge (a := (F (4 * k))) 2 (by decide) (by omega) (by decide)).mp c25
      refine v_bipush (v := 7) C dL_length5_100 (by decide) ?_
      refine v_iadd C dL_length5_102 (v_eqi (nI_adk (X.length + Y.length) 7 (by decide)) ?_)
      exact v_iret C hQ hr rfl (Nat.le_of_ble_eq_true rfl) (Nat.le_of_ble_eq_true rfl) dL_length5_103 ⟨by rw [hTX, sjt_ln f0, if_neg (by omega)], rfl⟩
    · have c25 := (nk_ge_f (a := (F (4 * k))) 2 (by decide) (by omega) (by decide)).mp c25
      refine v_iconst (v := 5) C dL_length5_96 (by decide) ?_
      refine v_goto (tgt := 102) C dL_length5_97 (by decide) ?_
      refine v_iadd C dL_length5_102 (v_eqi (nI_adk (X.length + Y.length) 5 (by decide)) ?_)
      exact v_iret C hQ hr rfl (Nat.le_of_ble_eq_true rfl) (Nat.le_of_ble_eq_true rfl) dL_length5_103 ⟨by rw [hTX, sjt_ln f0, if_pos (by omega)], rfl⟩
  · obtain ⟨X, hX⟩ : ∃ X, X = txtOf (T (F (4 * k + 1))) := ⟨_, rfl⟩
    have xl : X.length ≤ 441 := by rw [hX]; exact (he.w6 hw (k := F (4 * k + 1)) (by omega)).txl6 (Nat.le_refl _)
    have hTX : txtOf (T k) = dgl (F (4 * k + 2)) ++ [37, 32, 111, 102, 32] ++ X := by rw [fT, txt_share (he.w6 hw (k := F (4 * k + 1)) (by omega)), hX]
    have d3 := dg_le3 f2
    refine v_aload_n C 1 rfl dL_length5_0 rfl ?_
    refine v_iconst (v := 4) C dL_length5_1 (by decide) ?_
    refine v_iload_n C 0 rfl dL_length5_2 rfl ?_
    refine v_imul C dL_length5_3 (v_eqi (nI_kml k 4 (by decide)) ?_)
    refine v_iald C hF (vpin (show 4 * k < 60 by omega) (by decide)) dL_length5_4 (v_eqi (y := nI 7) ((congrArg (fun j => nI (F j)) (nI_clamp (show 4 * k < 2 ^ 31 by omega))).trans (congrArg nI f0)) ?_)
    refine v_istore_n C [(2, .int (nI 7)), (0, .int (nI k)), (1, .ref fa)] rfl (by decide) dL_length5_5 rfl ?_
    refine v_iload_n C 0 rfl dL_length5_6 rfl ?_
    refine v_iconst (v := 4) C dL_length5_7 (by decide) ?_
    refine v_icmp_eq (tgt := 16) C dL_length5_8 (by decide) (fun c29 => absurd c29 (by decide)) (fun c29 => ?_)
    refine v_iload_n C 0 rfl dL_length5_11 rfl ?_
    refine v_iconst (v := 5) C dL_length5_12 (by decide) ?_
    refine v_icmp_ne (tgt := 22) C dL_length5_13 (by decide) (fun c30 => ?_) (fun c30 => absurd c30 (by decide))
    refine v_iload_n C 0 rfl dL_length5_22 rfl ?_
    refine v_bipush (v := 6) C dL_length5_23 (by decide) ?_
    refine v_icmp_ne (tgt := 30) C dL_length5_25 (by decide) (fun c31 => ?_) (fun c31 => absurd c31 (by decide))
    refine v_aload_n C 2 rfl dL_length5_30 rfl ?_
    refine v_iconst (v := 4) C dL_length5_31 (by decide) ?_
    refine v_iload_n C 1 rfl dL_length5_32 rfl ?_
    refine v_imul C dL_length5_33 (v_eqi (nI_kml k 4 (by decide)) ?_)
    refine v_iconst (v := 1) C dL_length5_34 (by decide) ?_
    refine v_iadd C dL_length5_35 (v_eqi (nI_adk (4 * k) 1 (by decide)) ?_)
    refine v_iald C hF (vpin (show 4 * k + 1 < 60 by omega) (by decide)) dL_length5_36 (v_eqi (y := nI (F (4 * k + 1))) (congrArg (fun j => nI (F j)) (nI_clamp (show 4 * k + 1 < 2 ^ 31 by omega))) ?_)
    refine v_aload_n C 2 rfl dL_length5_37 rfl ?_
    refine v_callS (rest := []) C (c_L_length4 l hl G fa (F (4 * k + 1)) M F A D T lv s h hw he hF (show F (4 * k + 1) < M by omega) (show lv (F (4 * k + 1)) ≤ 4 by omega)) S_L_73 rfl rfl (Nat.le_of_ble_eq_true rfl) ⟨Nat.le_of_ble_eq_true rfl, Nat.le_of_ble_eq_true rfl⟩ ⟨Nat.le_of_ble_eq_true rfl, Nat.le_of_ble_eq_true rfl⟩ dL_length5_38 (fun i34 h34 q34 => ?_)
    obtain ⟨e34, rfl⟩ := q34
    rw [← hX] at e34
    subst e34
    refine v_istore_n C [(3, .int (nI X.length)), (2, .int (nI 7)), (0, .int (nI k)), (1, .ref fa)] rfl (by decide) dL_length5_41 rfl ?_
    refine v_iload_n C 1 rfl dL_length5_42 rfl ?_
    refine v_bipush (v := 7) C dL_length5_43 (by decide) ?_
    refine v_icmp_ne (tgt := 65) C dL_length5_45 (by decide) (fun c35 => absurd c35 (by decide)) (fun c35 => ?_)
    refine v_iload_n C 0 rfl dL_length5_48 rfl ?_
    refine v_iconst (v := 5) C dL_length5_49 (by decide) ?_
    refine v_iadd C dL_length5_50 (v_eqi (nI_adk X.length 5 (by decide)) ?_)
    refine v_aload_n C 3 rfl dL_length5_51 rfl ?_
    refine v_iconst (v := 4) C dL_length5_52 (by decide) ?_
    refine v_iload_n C 2 rfl dL_length5_53 rfl ?_
    refine v_imul C dL_length5_54 (v_eqi (nI_kml k 4 (by decide)) ?_)
    refine v_iconst (v := 2) C dL_length5_55 (by decide) ?_
    refine v_iadd C dL_length5_56 (v_eqi (nI_adk (4 * k) 2 (by decide)) ?_)
    refine v_iald C hF (vpin (show 4 * k + 2 < 60 by omega) (by decide)) dL_length5_57 (v_eqi (y := nI (F (4 * k + 2))) (congrArg (fun j => nI (F j)) (nI_clamp (show 4 * k + 2 < 2 ^ 31 by omega))) ?_)
    refine v_callS (rest := [.int (nI (X.length + 5))]) C (c_L_digits l hl G (F (4 * k + 2)) h (by omega)) S_L_12 rfl rfl (Nat.le_of_ble_eq_true rfl) ⟨Nat.le_of_ble_eq_true rfl, Nat.le_of_ble_eq_true rfl⟩ ⟨Nat.le_of_ble_eq_true rfl, Nat.le_of_ble_eq_true rfl⟩ dL_length5_58 (fun i39 h39 q39 => ?_)
    obtain ⟨e39, rfl⟩ := q39; subst e39
    refine v_iadd C dL_length5_61 (v_eqi (nI_add (X.length + 5) (sb_dg (F (4 * k + 2)))) ?_)
    refine v_goto (tgt := 103) C dL_length5_62 (by decide) ?_
    exact v_iret C hQ hr rfl (Nat.le_of_ble_eq_true rfl) (Nat.le_of_ble_eq_true rfl) dL_length5_103 ⟨by rw [hTX]; refine congrArg nI ?_; simp only [List.length_append, dgl_len, List.length_cons, List.length_nil]; omega, rfl⟩
  · obtain ⟨X, hX⟩ : ∃ X, X = txtOf (T (F (4 * k + 1))) := ⟨_, rfl⟩
    have xl : X.length ≤ 441 := by rw [hX]; exact (he.w6 hw (k := F (4 * k + 1)) (by omega)).txl6 (Nat.le_refl _)
    have hTX : txtOf (T k) = [121, 101, 97, 114, 40] ++ X ++ [41] := by rw [fT, txt_year (he.w6 hw (k := F (4 * k + 1)) (by omega)), hX]
    refine v_aload_n C 1 rfl dL_length5_0 rfl ?_
    refine v_iconst (v := 4) C dL_length5_1 (by decide) ?_
    refine v_iload_n C 0 rfl dL_length5_2 rfl ?_
    refine v_imul C dL_length5_3 (v_eqi (nI_kml k 4 (by decide)) ?_)
    refine v_iald C hF (vpin (show 4 * k < 60 by omega) (by decide)) dL_length5_4 (v_eqi (y := nI 8) ((congrArg (fun j => nI (F j)) (nI_clamp (show 4 * k < 2 ^ 31 by omega))).trans (congrArg nI f0)) ?_)
    refine v_istore_n C [(2, .int (nI 8)), (0, .int (nI k)), (1, .ref fa)] rfl (by decide) dL_length5_5 rfl ?_
    refine v_iload_n C 0 rfl dL_length5_6 rfl ?_
    refine v_iconst (v := 4) C dL_length5_7 (by decide) ?_
    refine v_icmp_eq (tgt := 16) C dL_length5_8 (by decide) (fun c42 => absurd c42 (by decide)) (fun c42 => ?_)
    refine v_iload_n C 0 rfl dL_length5_11 rfl ?_
    refine v_iconst (v := 5) C dL_length5_12 (by decide) ?_
    refine v_icmp_ne (tgt := 22) C dL_length5_13 (by decide) (fun c43 => ?_) (fun c43 => absurd c43 (by decide))
    refine v_iload_n C 0 rfl dL_length5_22 rfl ?_
    refine v_bipush (v := 6) C dL_length5_23 (by decide) ?_
    refine v_icmp_ne (tgt := 30) C dL_length5_25 (by decide) (fun c44 => ?_) (fun c44 => absurd c44 (by decide))
    refine v_aload_n C 2 rfl dL_length5_30 rfl ?_
    refine v_iconst (v := 4) C dL_length5_31 (by decide) ?_
    refine v_iload_n C 1 rfl dL_length5_32 rfl ?_
    refine v_imul C dL_length5_33 (v_eqi (nI_kml k 4 (by decide)) ?_)
    refine v_iconst (v := 1) C dL_length5_34 (by decide) ?_
    refine v_iadd C dL_length5_35 (v_eqi (nI_adk (4 * k) 1 (by decide)) ?_)
    refine v_iald C hF (vpin (show 4 * k + 1 < 60 by omega) (by decide)) dL_length5_36 (v_eqi (y := nI (F (4 * k + 1))) (congrArg (fun j => nI (F j)) (nI_clamp (show 4 * k + 1 < 2 ^ 31 by omega))) ?_)
    refine v_aload_n C 2 rfl dL_length5_37 rfl ?_
    refine v_callS (rest := []) C (c_L_length4 l hl G fa (F (4 * k + 1)) M F A D T lv s h hw he hF (show F (4 * k + 1) < M by omega) (show lv (F (4 * k + 1)) ≤ 4 by omega)) S_L_73 rfl rfl (Nat.le_of_ble_eq_true rfl) ⟨Nat.le_of_ble_eq_true rfl, Nat.le_of_ble_eq_true rfl⟩ ⟨Nat.le_of_ble_eq_true rfl, Nat.le_of_ble_eq_true rfl⟩ dL_length5_38 (fun i47 h47 q47 => ?_)
    obtain ⟨e47, rfl⟩ := q47
    rw [← hX] at e47
    subst e47
    refine v_istore_n C [(3, .int (nI X.length)), (2, .int (nI 8)), (0, .int (nI k)), (1, .ref fa)] rfl (by decide) dL_length5_41 rfl ?_
    refine v_iload_n C 1 rfl dL_length5_42 rfl ?_
    refine v_bipush (v := 7) C dL_length5_43 (by decide) ?_
    refine v_icmp_ne (tgt := 65) C dL_length5_45 (by decide) (fun c48 => ?_) (fun c48 => absurd c48 (by decide))
    refine v_iload_n C 1 rfl dL_length5_65 rfl ?_
    refine v_bipush (v := 8) C dL_length5_66 (by decide) ?_
    refine v_icmp_ne (tgt := 78) C dL_length5_68 (by decide) (fun c49 => absurd c49 (by decide)) (fun c49 => ?_)
    refine v_iload_n C 0 rfl dL_length5_71 rfl ?_
    refine v_bipush (v := 6) C dL_length5_72 (by decide) ?_
    refine v_iadd C dL_length5_74 (v_eqi (nI_adk X.length 6 (by decide)) ?_)
    refine v_goto (tgt := 103) C dL_length5_75 (by decide) ?_
    exact v_iret C hQ hr rfl (Nat.le_of_ble_eq_true rfl) (Nat.le_of_ble_eq_true rfl) dL_length5_103 ⟨by rw [hTX]; refine congrArg nI ?_; simp only [List.length_append, List.length_cons, List.length_nil]; omega, rfl⟩
set_option maxHeartbeats 4000000 in
set_option maxRecDepth 100000 in
theorem c_L_length6 (l : Launch) (hl : l.stackTraces = false) (G : zG) (fa k M : Nat) (F : Nat → Nat) (A D : Nat → Int32) (T : Nat → List Tok) (lv : Nat → Nat) (s : ZS) (h : zH) (hw : WFs s) (he : EV s F A D T lv M) (hF : iC G h fa 60 (fN F)) (hk : k < M) (hv : lv k ≤ 6) : zMet eI l yL_length6 cL_length6 4 (some .int) 18 0 0 G [.int (nI k), .ref fa] h (fun r h2 => r = nI (txtOf (T k)).length ∧ h = h2) := by
  refine con_of hl RL rfl (by decide +kernel) [(0, .int (nI k)), (1, .ref fa)] rfl (Nat.le_of_ble_eq_true rfl) ?_
  intro zp ze zs zm zargs zbelow zmeth zc C hr hin Q hQ
  have hM := he.1
  have hN6 := he.2.1
  obtain ⟨l1, l6, l3, hFE⟩ := he.2.2.1 k hk
  rcases hFE with ⟨f0, f1, fT, fl⟩ | ⟨f0, f1, fT, fl⟩ | ⟨f0, f1, fT, fl⟩ | ⟨f0, f1, f2, fT, fl⟩ | ⟨f0, f1, f2, fT, fl⟩ | ⟨f0, f1, fT, fl⟩
  · have hTX := (congrArg txtOf fT).trans (tx4 f1)
    refine v_aload_n C 1 rfl dL_length6_0 rfl ?_
    refine v_iconst (v := 4) C dL_length6_1 (by decide) ?_
    refine v_iload_n C 0 rfl dL_length6_2 rfl ?_
    refine v_imul C dL_length6_3 (v_eqi (nI_kml k 4 (by decide)) ?_)
    refine v_iald C hF (vpin (show 4 * k < 60 by omega) (by decide)) dL_length6_4 (v_eqi (y := nI 4) ((congrArg (fun j => nI (F j)) (nI_clamp (show 4 * k < 2 ^ 31 by omega))).trans (congrArg nI f0)) ?_)
    refine v_istore_n C [(2, .int (nI 4)), (0, .int (nI k)), (1, .ref fa)] rfl (by decide) dL_length6_5 rfl ?_
    refine v_iload_n C 0 rfl dL_length6_6 rfl ?_
    refine v_iconst (v := 4) C dL_length6_7 (by decide) ?_
    refine v_icmp_eq (tgt := 16) C dL_length6_8 (by decide) (fun c2 => ?_) (fun c2 => absurd c2 (by decide))
    refine v_iload_n C 1 rfl dL_length6_16 rfl ?_
    refine v_aload_n C 2 rfl dL_length6_17 rfl ?_
    refine v_callS (rest := []) C (c_L_length1 l hl G fa k M F A D T lv s h hw he hF hk (by omega)) S_L_40 rfl rfl (Nat.le_of_ble_eq_true rfl) ⟨Nat.le_of_ble_eq_true rfl, Nat.le_of_ble_eq_true rfl⟩ ⟨Nat.le_of_ble_eq_true rfl, Nat.le_of_ble_eq_true rfl⟩ dL_length6_18 (fun i3 h3 q3 => ?_)
    obtain ⟨e3, rfl⟩ := q3
    subst e3
    exact v_iret C hQ hr rfl (Nat.le_of_ble_eq_true rfl) (Nat.le_of_ble_eq_true rfl) dL_length6_21 ⟨rfl, rfl⟩
  · have hTX := (congrArg txtOf fT).trans (tx5 (F (4 * k + 1)))
    have d7 := dg_le7 f1
    refine v_aload_n C 1 rfl dL_length6_0 rfl ?_
    refine v_iconst (v := 4) C dL_length6_1 (by decide) ?_
    refine v_iload_n C 0 rfl dL_length6_2 rfl ?_
    refine v_imul C dL_length6_3 (v_eqi (nI_kml k 4 (by decide)) ?_)
    refine v_iald C hF (vpin (show 4 * k < 60 by omega) (by decide)) dL_length6_4 (v_eqi (y := nI 5) ((congrArg (fun j => nI (F j)) (nI_clamp (show 4 * k < 2 ^ 31 by omega))).trans (congrArg nI f0)) ?_)
    refine v_istore_n C [(2, .int (nI 5)), (0, .int (nI k)), (1, .ref fa)] rfl (by decide) dL_length6_5 rfl ?_
    refine v_iload_n C 0 rfl dL_length6_6 rfl ?_
    refine v_iconst (v := 4) C dL_length6_7 (by decide) ?_
    refine v_icmp_eq (tgt := 16) C dL_length6_8 (by decide) (fun c5 => absurd c5 (by decide)) (fun c5 => ?_)
    refine v_iload_n C 0 rfl dL_length6_11 rfl ?_
    refine v_iconst (v := 5) C dL_length6_12 (by decide) ?_
    refine v_icmp_ne (tgt := 22) C dL_length6_13 (by decide) (fun c6 => absurd c6 (by decide)) (fun c6 => ?_)
    refine v_iload_n C 1 rfl dL_length6_16 rfl ?_
    refine v_aload_n C 2 rfl dL_length6_17 rfl ?_
    refine v_callS (rest := []) C (c_L_length1 l hl G fa k M F A D T lv s h hw he hF hk (by omega)) S_L_40 rfl rfl (Nat.le_of_ble_eq_true rfl) ⟨Nat.le_of_ble_eq_true rfl, Nat.le_of_ble_eq_true rfl⟩ ⟨Nat.le_of_ble_eq_true rfl, Nat.le_of_ble_eq_true rfl⟩ dL_length6_18 (fun i7 h7 q7 => ?_)
    obtain ⟨e7, rfl⟩ := q7
    subst e7
    exact v_iret C hQ hr rfl (Nat.le_of_ble_eq_true rfl) (Nat.le_of_ble_eq_true rfl) dL_length6_21 ⟨rfl, rfl⟩
  · have hTX := (congrArg txtOf fT).trans (tx6 (a := F (4 * k + 1)) (by omega))
    refine v_aload_n C 1 rfl dL_length6_0 rfl ?_
    refine v_iconst (v := 4) C dL_length6_1 (by decide) ?_
    refine v_iload_n C 0 rfl dL_length6_2 rfl ?_
    refine v_imul C dL_length6_3 (v_eqi (nI_kml k 4 (by decide)) ?_)
    refine v_iald C hF (vpin (show 4 * k < 60 by omega) (by decide)) dL_length6_4 (v_eqi (y := nI 6) ((congrArg (fun j => nI (F j)) (nI_clamp (show 4 * k < 2 ^ 31 by omega))).trans (congrArg nI f0)) ?_)
    refine v_istore_n C [(2, .int (nI 6)), (0, .int (nI k)), (1, .ref fa)] rfl (by decide) dL_length6_5 rfl ?_
    refine v_iload_n C 0 rfl dL_length6_6 rfl ?_
    refine v_iconst (v := 4) C dL_length6_7 (by decide) ?_
    refine v_icmp_eq (tgt := 16) C dL_length6_8 (by decide) (fun c9 => absurd c9 (by decide)) (fun c9 => ?_)
    refine v_iload_n C 0 rfl dL_length6_11 rfl ?_
    refine v_iconst (v := 5) C dL_length6_12 (by decide) ?_
    refine v_icmp_ne (tgt := 22) C dL_length6_13 (by decide) (fun c10 => ?_) (fun c10 => absurd c10 (by decide))
    refine v_iload_n C 0 rfl dL_length6_22 rfl ?_
    refine v_bipush (v := 6) C dL_length6_23 (by decide) ?_
    refine v_icmp_ne (tgt := 30) C dL_length6_25 (by decide) (fun c11 => absurd c11 (by decide)) (fun c11 => ?_)
    refine v_iconst (v := 2) C dL_length6_28 (by decide) ?_
    exact v_iret C hQ hr rfl (Nat.le_of_ble_eq_true rfl) (Nat.le_of_ble_eq_true rfl) dL_length6_29 ⟨by rw [hTX]; rfl, rfl⟩
  · obtain ⟨X, hX⟩ : ∃ X, X = txtOf (T (F (4 * k + 1))) := ⟨_, rfl⟩
    have xl : X.length ≤ 441 := by rw [hX]; exact (he.w6 hw (k := F (4 * k + 1)) (by omega)).txl6 (Nat.le_refl _)
    obtain ⟨Y, hY⟩ : ∃ Y, Y = txtOf (T (F (4 * k + 2))) := ⟨_, rfl⟩
    have yl : Y.length ≤ 441 := by rw [hY]; exact (he.w6 hw (k := F (4 * k + 2)) (by omega)).txl6 (Nat.le_refl _)
    have hTX : txtOf (T k) = sjt (F (4 * k)) X Y := by rw [fT, txt_join (he.w6 hw (k := F (4 * k + 1)) (by omega)) (he.w6 hw (k := F (4 * k + 2)) (by omega)) f0, hX, hY]
    refine v_aload_n C 1 rfl dL_length6_0 rfl ?_
    refine v_iconst (v := 4) C dL_length6_1 (by decide) ?_
    refine v_iload_n C 0 rfl dL_length6_2 rfl ?_
    refine v_imul C dL_length6_3 (v_eqi (nI_kml k 4 (by decide)) ?_)
    refine v_iald C hF (vpin (show 4 * k < 60 by omega) (by decide)) dL_length6_4 (v_eqi (y := nI (F (4 * k))) ((congrArg (fun j => nI (F j)) (nI_clamp (show 4 * k < 2 ^ 31 by omega))).trans (congrArg nI rfl)) ?_)
    refine v_istore_n C [(2, .int (nI (F (4 * k)))), (0, .int (nI k)), (1, .ref fa)] rfl (by decide) dL_length6_5 rfl ?_
    refine v_iload_n C 0 rfl dL_length6_6 rfl ?_
    refine v_iconst (v := 4) C dL_length6_7 (by decide) ?_
    refine v_icmp_eq (tgt := 16) C dL_length6_8 (by decide) (fun c13 => absurd ((nk_eq (a := F (4 * k)) 4 (by decide) (by omega) (by decide)).mp c13) (by omega)) (fun c13 => ?_)
    have c13 := (nk_eq_f (a := (F (4 * k))) 4 (by decide) (by omega) (by decide)).mp c13
    refine v_iload_n C 0 rfl dL_length6_11 rfl ?_
    refine v_iconst (v := 5) C dL_length6_12 (by decide) ?_
    refine v_icmp_ne (tgt := 22) C dL_length6_13 (by decide) (fun c14 => ?_) (fun c14 => absurd ((nk_ne_f (a := F (4 * k)) 5 (by decide) (by omega) (by decide)).mp c14) (by omega))
    have c14 := (nk_ne (a := (F (4 * k))) 5 (by decide) (by omega) (by decide)).mp c14
    refine v_iload_n C 0 rfl dL_length6_22 rfl ?_
    refine v_bipush (v := 6) C dL_length6_23 (by decide) ?_
    refine v_icmp_ne (tgt := 30) C dL_length6_25 (by decide) (fun c15 => ?_) (fun c15 => absurd ((nk_ne_f (a := F (4 * k)) 6 (by decide) (by omega) (by decide)).mp c15) (by omega))
    have c15 := (nk_ne (a := (F (4 * k))) 6 (by decide) (by omega) (by decide)).mp c15
    refine v_aload_n C 2 rfl dL_length6_30 rfl ?_
    refine v_iconst (v := 4) C dL_length6_31 (by decide) ?_
    refine v_iload_n C 1 rfl dL_length6_32 rfl ?_
    refine v_imul C dL_length6_33 (v_eqi (nI_kml k 4 (by decide)) ?_)
    refine v_iconst (v := 1) C dL_length6_34 (by decide) ?_
    refine v_iadd C dL_length6_35 (v_eqi (nI_adk (4 * k) 1 (by decide)) ?_)
    refine v_iald C hF (vpin (show 4 * k + 1 < 60 by omega) (by decide)) dL_length6_36 (v_eqi (y := nI (F (4 * k + 1))) (congrArg (fun j => nI (F j)) (nI_clamp (show 4 * k + 1 < 2 ^ 31 by omega))) ?_)
    refine v_aload_n C 2 rfl dL_length6_37 rfl ?_
    refine v_callS (rest := []) C (c_L_length5 l hl G fa (F (4 * k + 1)) M F A D T lv s h hw he hF (show F (4 * k + 1) < M by omega) (show lv (F (4 * k + 1)) ≤ 5 by omega)) S_L_82 rfl rfl (Nat.le_of_ble_eq_true rfl) ⟨Nat.le_of_ble_eq_true rfl, Nat.le_of_ble_eq_true rfl⟩ ⟨Nat.le_of_ble_eq_true rfl, Nat.le_of_ble_eq_true rfl⟩ dL_length6_38 (fun i18 h18 q18 => ?_)
    obtain ⟨e18, rfl⟩ := q18
    rw [← hX] at e18
    subst e18
    refine v_istore_n C [(3, .int (nI X.length)), (2, .int (nI (F (4 * k)))), (0, .int (nI k)), (1, .ref fa)] rfl (by decide) dL_length6_41 rfl ?_
    refine v_iload_n C 1 rfl dL_length6_42 rfl ?_
    refine v_bipush (v := 7) C dL_length6_43 (by decide) ?_
    refine v_icmp_ne (tgt := 65) C dL_length6_45 (by decide) (fun c19 => ?_) (fun c19 => absurd ((nk_ne_f (a := F (4 * k)) 7 (by decide) (by omega) (by decide)).mp c19) (by omega))
    have c19 := (nk_ne (a := (F (4 * k))) 7 (by decide) (by omega) (by decide)).mp c19
    refine v_iload_n C 1 rfl dL_length6_65 rfl ?_
    refine v_bipush (v := 8) C dL_length6_66 (by decide) ?_
    refine v_icmp_ne (tgt := 78) C dL_length6_68 (by decide) (fun c20 => ?_) (fun c20 => absurd ((nk_ne_f (a := F (4 * k)) 8 (by decide) (by omega) (by decide)).mp c20) (by omega))
    have c20 := (nk_ne (a := (F (4 * k))) 8 (by decide) (by omega) (by decide)).mp c20
    refine v_iload_n C 0 rfl dL_length6_78 rfl ?_
    refine v_aload_n C 3 rfl dL_length6_79 rfl ?_
    refine v_iconst (v := 4) C dL_length6_80 (by decide) ?_
    refine v_iload_n C 2 rfl dL_length6_81 rfl ?_
    refine v_imul C dL_length6_82 (v_eqi (nI_kml k 4 (by decide)) ?_)
    refine v_iconst (v := 2) C dL_length6_83 (by decide) ?_
    refine v_iadd C dL_length6_84 (v_eqi (nI_adk (4 * k) 2 (by decide)) ?_)
    refine v_iald C hF (vpin (show 4 * k + 2 < 60 by omega) (by decide)) dL_length6_85 (v_eqi (y := nI (F (4 * k + 2))) (congrArg (fun j => nI (F j)) (nI_clamp (show 4 * k + 2 < 2 ^ 31 by omega))) ?_)
    refine v_aload_n C 3 rfl dL_length6_86 rfl ?_
    refine v_callS (rest := [.int (nI X.length)]) C (c_L_length5 l hl G fa (F (4 * k + 2)) M F A D T lv s h hw he hF (show F (4 * k + 2) < M by omega) (show lv (F (4 * k + 2)) ≤ 5 by omega)) S_L_82 rfl rfl (Nat.le_of_ble_eq_true rfl) ⟨Nat.le_of_ble_eq_true rfl, Nat.le_of_ble_eq_true rfl⟩ ⟨Nat.le_of_ble_eq_true rfl, Nat.le_of_ble_eq_true rfl⟩ dL_length6_87 (fun i23 h23 q23 => ?_)
    obtain ⟨e23, rfl⟩ := q23
    rw [← hY] at e23
    subst e23
    refine v_iadd C dL_length6_90 (v_eqi (nI_add X.length Y.length) ?_)
    refine v_iload_n C 1 rfl dL_length6_91 rfl ?_
    refine v_iconst (v := 2) C dL_length6_92 (by decide) ?_
    refine v_icmp_ge (tgt := 100) C dL_length6_93 (by decide) (fun c25 => ?_) (fun c25 => ?_)
    · have c25 := (nk_ge (a := (F (4 * k))) 2 (by decide) (by omega) (by decide)).mp c25
      refine v_bipush (v := 7) C dL_length6_100 (by decide) ?_
      refine v_iadd C dL_length6_102 (v_eqi (nI_adk (X.length + Y.length) 7 (by decide)) ?_)
      exact v_iret C hQ hr rfl (Nat.le_of_ble_eq_true rfl) (Nat.le_of_ble_eq_true rfl) dL_length6_103 ⟨by rw [hTX, sjt_ln f0, if_neg (by omega)], rfl⟩
    · have c25 := (nk_ge_f (a := (F (4 * k))) 2 (by decide) (by omega) (by decide)).mp c25
      refine v_iconst (v := 5) C dL_length6_96 (by decide) ?_
      refine v_goto (tgt := 102) C dL_length6_97 (by decide) ?_
      refine v_iadd C dL_length6_102 (v_eqi (nI_adk (X.length + Y.length) 5 (by decide)) ?_)
      exact v_iret C hQ hr rfl (Nat.le_of_ble_eq_true rfl) (Nat.le_of_ble_eq_true rfl) dL_length6_103 ⟨by rw [hTX, sjt_ln f0, if_pos (by omega)], rfl⟩
  · obtain ⟨X, hX⟩ : ∃ X, X = txtOf (T (F (4 * k + 1))) := ⟨_, rfl⟩
    have xl : X.length ≤ 441 := by rw [hX]; exact (he.w6 hw (k := F (4 * k + 1)) (by omega)).txl6 (Nat.le_refl _)
    have hTX : txtOf (T k) = dgl (F (4 * k + 2)) ++ [37, 32, 111, 102, 32] ++ X := by rw [fT, txt_share (he.w6 hw (k := F (4 * k + 1)) (by omega)), hX]
    have d3 := dg_le3 f2
    refine v_aload_n C 1 rfl dL_length6_0 rfl ?_
    refine v_iconst (v := 4) C dL_length6_1 (by decide) ?_
    refine v_iload_n C 0 rfl dL_length6_2 rfl ?_
    refine v_imul C dL_length6_3 (v_eqi (nI_kml k 4 (by decide)) ?_)
    refine v_iald C hF (vpin (show 4 * k < 60 by omega) (by decide)) dL_length6_4 (v_eqi (y := nI 7) ((congrArg (fun j => nI (F j)) (nI_clamp (show 4 * k < 2 ^ 31 by omega))).trans (congrArg nI f0)) ?_)
    refine v_istore_n C [(2, .int (nI 7)), (0, .int (nI k)), (1, .ref fa)] rfl (by decide) dL_length6_5 rfl ?_
    refine v_iload_n C 0 rfl dL_length6_6 rfl ?_
    refine v_iconst (v := 4) C dL_length6_7 (by decide) ?_
    refine v_icmp_eq (tgt := 16) C dL_length6_8 (by decide) (fun c29 => absurd c29 (by decide)) (fun c29 => ?_)
    refine v_iload_n C 0 rfl dL_length6_11 rfl ?_
    refine v_iconst (v := 5) C dL_length6_12 (by decide) ?_
    refine v_icmp_ne (tgt := 22) C dL_length6_13 (by decide) (fun c30 => ?_) (fun c30 => absurd c30 (by decide))
    refine v_iload_n C 0 rfl dL_length6_22 rfl ?_
    refine v_bipush (v := 6) C dL_length6_23 (by decide) ?_
    refine v_icmp_ne (tgt := 30) C dL_length6_25 (by decide) (fun c31 => ?_) (fun c31 => absurd c31 (by decide))
    refine v_aload_n C 2 rfl dL_length6_30 rfl ?_
    refine v_iconst (v := 4) C dL_length6_31 (by decide) ?_
    refine v_iload_n C 1 rfl dL_length6_32 rfl ?_
    refine v_imul C dL_length6_33 (v_eqi (nI_kml k 4 (by decide)) ?_)
    refine v_iconst (v := 1) C dL_length6_34 (by decide) ?_
    refine v_iadd C dL_length6_35 (v_eqi (nI_adk (4 * k) 1 (by decide)) ?_)
    refine v_iald C hF (vpin (show 4 * k + 1 < 60 by omega) (by decide)) dL_length6_36 (v_eqi (y := nI (F (4 * k + 1))) (congrArg (fun j => nI (F j)) (nI_clamp (show 4 * k + 1 < 2 ^ 31 by omega))) ?_)
    refine v_aload_n C 2 rfl dL_length6_37 rfl ?_
    refine v_callS (rest := []) C (c_L_length5 l hl G fa (F (4 * k + 1)) M F A D T lv s h hw he hF (show F (4 * k + 1) < M by omega) (show lv (F (4 * k + 1)) ≤ 5 by omega)) S_L_82 rfl rfl (Nat.le_of_ble_eq_true rfl) ⟨Nat.le_of_ble_eq_true rfl, Nat.le_of_ble_eq_true rfl⟩ ⟨Nat.le_of_ble_eq_true rfl, Nat.le_of_ble_eq_true rfl⟩ dL_length6_38 (fun i34 h34 q34 => ?_)
    obtain ⟨e34, rfl⟩ := q34
    rw [← hX] at e34
    subst e34
    refine v_istore_n C [(3, .int (nI X.length)), (2, .int (nI 7)), (0, .int (nI k)), (1, .ref fa)] rfl (by decide) dL_length6_41 rfl ?_
    refine v_iload_n C 1 rfl dL_length6_42 rfl ?_
    refine v_bipush (v := 7) C dL_length6_43 (by decide) ?_
    refine v_icmp_ne (tgt := 65) C dL_length6_45 (by decide) (fun c35 => absurd c35 (by decide)) (fun c35 => ?_)
    refine v_iload_n C 0 rfl dL_length6_48 rfl ?_
    refine v_iconst (v := 5) C dL_length6_49 (by decide) ?_
    refine v_iadd C dL_length6_50 (v_eqi (nI_adk X.length 5 (by decide)) ?_)
    refine v_aload_n C 3 rfl dL_length6_51 rfl ?_
    refine v_iconst (v := 4) C dL_length6_52 (by decide) ?_
    refine v_iload_n C 2 rfl dL_length6_53 rfl ?_
    refine v_imul C dL_length6_54 (v_eqi (nI_kml k 4 (by decide)) ?_)
    refine v_iconst (v := 2) C dL_length6_55 (by decide) ?_
    refine v_iadd C dL_length6_56 (v_eqi (nI_adk (4 * k) 2 (by decide)) ?_)
    refine v_iald C hF (vpin (show 4 * k + 2 < 60 by omega) (by decide)) dL_length6_57 (v_eqi (y := nI (F (4 * k + 2))) (congrArg (fun j => nI (F j)) (nI_clamp (show 4 * k + 2 < 2 ^ 31 by omega))) ?_)
    refine v_callS (rest := [.int (nI (X.length + 5))]) C (c_L_digits l hl G (F (4 * k + 2)) h (by omega)) S_L_12 rfl rfl (Nat.le_of_ble_eq_true rfl) ⟨Nat.le_of_ble_eq_true rfl, Nat.le_of_ble_eq_true rfl⟩ ⟨Nat.le_of_ble_eq_true rfl, Nat.le_of_ble_eq_true rfl⟩ dL_length6_58 (fun i39 h39 q39 => ?_)
    obtain ⟨e39, rfl⟩ := q39; subst e39
    refine v_iadd C dL_length6_61 (v_eqi (nI_add (X.length + 5) (sb_dg (F (4 * k + 2)))) ?_)
    refine v_goto (tgt := 103) C dL_length6_62 (by decide) ?_
    exact v_iret C hQ hr rfl (Nat.le_of_ble_eq_true rfl) (Nat.le_of_ble_eq_true rfl) dL_length6_103 ⟨by rw [hTX]; refine congrArg nI ?_; simp only [List.length_append, dgl_len, List.length_cons, List.length_nil]; omega, rfl⟩
  · obtain ⟨X, hX⟩ : ∃ X, X = txtOf (T (F (4 * k + 1))) := ⟨_, rfl⟩
    have xl : X.length ≤ 441 := by rw [hX]; exact (he.w6 hw (k := F (4 * k + 1)) (by omega)).txl6 (Nat.le_refl _)
    have hTX : txtOf (T k) = [121, 101, 97, 114, 40] ++ X ++ [41] := by rw [fT, txt_year (he.w6 hw (k := F (4 * k + 1)) (by omega)), hX]
    refine v_aload_n C 1 rfl dL_length6_0 rfl ?_
    refine v_iconst (v := 4) C dL_length6_1 (by decide) ?_
    refine v_iload_n C 0 rfl dL_length6_2 rfl ?_
    refine v_imul C dL_length6_3 (v_eqi (nI_kml k 4 (by decide)) ?_)
    refine v_iald C hF (vpin (show 4 * k < 60 by omega) (by decide)) dL_length6_4 (v_eqi (y := nI 8) ((congrArg (fun j => nI (F j)) (nI_clamp (show 4 * k < 2 ^ 31 by omega))).trans (congrArg nI f0)) ?_)
    refine v_istore_n C [(2, .int (nI 8)), (0, .int (nI k)), (1, .ref fa)] rfl (by decide) dL_length6_5 rfl ?_
    refine v_iload_n C 0 rfl dL_length6_6 rfl ?_
    refine v_iconst (v := 4) C dL_length6_7 (by decide) ?_
    refine v_icmp_eq (tgt := 16) C dL_length6_8 (by decide) (fun c42 => absurd c42 (by decide)) (fun c42 => ?_)
    refine v_iload_n C 0 rfl dL_length6_11 rfl ?_
    refine v_iconst (v := 5) C dL_length6_12 (by decide) ?_
    refine v_icmp_ne (tgt := 22) C dL_length6_13 (by decide) (fun c43 => ?_) (fun c43 => absurd c43 (by decide))
    refine v_iload_n C 0 rfl dL_length6_22 rfl ?_
    refine v_bipush (v := 6) C dL_length6_23 (by decide) ?_
    refine v_icmp_ne (tgt := 30) C dL_length6_25 (by decide) (fun c44 => ?_) (fun c44 => absurd c44 (by decide))
    refine v_aload_n C 2 rfl dL_length6_30 rfl ?_
    refine v_iconst (v := 4) C dL_length6_31 (by decide) ?_
    refine v_iload_n C 1 rfl dL_length6_32 rfl ?_
    refine v_imul C dL_length6_33 (v_eqi (nI_kml k 4 (by decide)) ?_)
    refine v_iconst (v := 1) C dL_length6_34 (by decide) ?_
    refine v_iadd C dL_length6_35 (v_eqi (nI_adk (4 * k) 1 (by decide)) ?_)
    refine v_iald C hF (vpin (show 4 * k + 1 < 60 by omega) (by decide)) dL_length6_36 (v_eqi (y := nI (F (4 * k + 1))) (congrArg (fun j => nI (F j)) (nI_clamp (show 4 * k + 1 < 2 ^ 31 by omega))) ?_)
    refine v_aload_n C 2 rfl dL_length6_37 rfl ?_
    refine v_callS (rest := []) C (c_L_length5 l hl G fa (F (4 * k + 1)) M F A D T lv s h hw he hF (show F (4 * k + 1) < M by omega) (show lv (F (4 * k + 1)) ≤ 5 by omega)) S_L_82 rfl rfl (Nat.le_of_ble_eq_true rfl) ⟨Nat.le_of_ble_eq_true rfl, Nat.le_of_ble_eq_true rfl⟩ ⟨Nat.le_of_ble_eq_true rfl, Nat.le_of_ble_eq_true rfl⟩ dL_length6_38 (fun i47 h47 q47 => ?_)
    obtain ⟨e47, rfl⟩ := q47
    rw [← hX] at e47
    subst e47
    refine v_istore_n C [(3, .int (nI X.length)), (2, .int (nI 8)), (0, .int (nI k)), (1, .ref fa)] rfl (by decide) dL_length6_41 rfl ?_
    refine v_iload_n C 1 rfl dL_length6_42 rfl ?_
    refine v_bipush (v := 7) C dL_length6_43 (by decide) ?_
    refine v_icmp_ne (tgt := 65) C dL_length6_45 (by decide) (fun c48 => ?_) (fun c48 => absurd c48 (by decide))
    refine v_iload_n C 1 rfl dL_length6_65 rfl ?_
    refine v_bipush (v := 8) C dL_length6_66 (by decide) ?_
    refine v_icmp_ne (tgt := 78) C dL_length6_68 (by decide) (fun c49 => absurd c49 (by decide)) (fun c49 => ?_)
    refine v_iload_n C 0 rfl dL_length6_71 rfl ?_
    refine v_bipush (v := 6) C dL_length6_72 (by decide) ?_
    refine v_iadd C dL_length6_74 (v_eqi (nI_adk X.length 6 (by decide)) ?_)
    refine v_goto (tgt := 103) C dL_length6_75 (by decide) ?_
    exact v_iret C hQ hr rfl (Nat.le_of_ble_eq_true rfl) (Nat.le_of_ble_eq_true rfl) dL_length6_103 ⟨by rw [hTX]; refine congrArg nI ?_; simp only [List.length_append, List.length_cons, List.length_nil]; omega, rfl⟩

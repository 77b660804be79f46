set_option maxHeartbeats 4000000 in
set_option maxRecDepth 100000 in
theorem c_L_sign1 (l : Launch) (hl : l.stackTraces = false) (G : zG) (fa k p M : Nat) (F : Nat → Nat) (A D : Nat → Int32) (T : Nat → List Tok) (lv : Nat → Nat) (s : ZS) (h : zH) (hw : WFs s) (he : EV s F A D T lv M) (hF : iC G h fa 60 (fN F)) (hk : k < M) (hv : lv k ≤ 1) (hp : p < (txtOf (T k)).length) : zMet eI l yL_sign1 cL_sign1 3 (some .int) 14 0 0 G [.int (nI k), .int (nI p), .ref fa] h (fun r h2 => r = nI ((txtOf (T k)).getD p 0) ∧ h = h2) := by
  refine con_of hl RL rfl (by decide +kernel) [(0, .int (nI k)), (1, .int (nI p)), (2, .ref fa)] rfl (Nat.le_of_ble_eq_true rfl) ?_
  intro zp ze zs zm zargs zbelow zmeth zc C hr hin Q hQ
  have hp441 : p < 441 := Nat.lt_of_lt_of_le hp ((he.w6 hw hk).txl6 (Nat.le_refl _))
  have hM := he.1
  have hN6 := he.2.1
  obtain ⟨l1, l6, l3, hFE⟩ := he.2.2.1 k hk
  rcases hFE with ⟨f0, f1, fT, fl⟩ | ⟨f0, f1, fT, fl⟩ | ⟨f0, f1, fT, fl⟩ | ⟨f0, f1, f2, fT, fl⟩ | ⟨f0, f1, f2, fT, fl⟩ | ⟨f0, f1, fT, fl⟩
  · have hTX := (congrArg txtOf fT).trans (tx4 f1)
    have hp2 : p < 2 := by rw [hTX] at hp; exact hp
    refine v_aload_n C 2 rfl dL_sign1_0 rfl ?_
    refine v_iconst (v := 4) C dL_sign1_1 (by decide) ?_
    refine v_iload_n C 0 rfl dL_sign1_2 rfl ?_
    refine v_imul C dL_sign1_3 (v_eqi (nI_kml k 4 (by decide)) ?_)
    refine v_iald C hF (vpin (show 4 * k < 60 by omega) (by decide)) dL_sign1_4 (v_eqi (y := nI 4) ((congrArg (fun j => nI (F j)) (nI_clamp (show 4 * k < 2 ^ 31 by omega))).trans (congrArg nI f0)) ?_)
    refine v_iconst (v := 4) C dL_sign1_5 (by decide) ?_
    refine v_icmp_ne (tgt := 31) C dL_sign1_6 (by decide) (fun c2 => absurd c2 (by decide)) (fun c2 => ?_)
    refine v_iload_n C 1 rfl dL_sign1_9 rfl ?_
    refine v_if_ne (tgt := 18) C dL_sign1_10 (by decide) (fun c3 => ?_) (fun c3 => ?_)
    · have c3 := (nk_ne (a := p) 0 (by decide) (by omega) (by decide)).mp c3
      refine v_bipush (v := 48) C dL_sign1_18 (by decide) ?_
      refine v_aload_n C 2 rfl dL_sign1_20 rfl ?_
      refine v_iconst (v := 4) C dL_sign1_21 (by decide) ?_
      refine v_iload_n C 0 rfl dL_sign1_22 rfl ?_
      refine v_imul C dL_sign1_23 (v_eqi (nI_kml k 4 (by decide)) ?_)
      refine v_iconst (v := 1) C dL_sign1_24 (by decide) ?_
      refine v_iadd C dL_sign1_25 (v_eqi (nI_adk (4 * k) 1 (by decide)) ?_)
      refine v_iald C hF (vpin (show 4 * k + 1 < 60 by omega) (by decide)) dL_sign1_26 (v_eqi (y := nI (F (4 * k + 1))) (congrArg (fun j => nI (F j)) (nI_clamp (show 4 * k + 1 < 2 ^ 31 by omega))) ?_)
      refine v_iadd C dL_sign1_27 (v_eqi (nI_kad (F (4 * k + 1)) 48 (by decide)) ?_)
      refine v_goto (tgt := 42) C dL_sign1_28 (by decide) ?_
      exact v_iret C hQ hr rfl (Nat.le_of_ble_eq_true rfl) (Nat.le_of_ble_eq_true rfl) dL_sign1_42 ⟨by rw [hTX, show p = 1 by omega]; rfl, rfl⟩
    · have c3 := (nk_ne_f (a := p) 0 (by decide) (by omega) (by decide)).mp c3
      refine v_bipush (v := 65) C dL_sign1_13 (by decide) ?_
      refine v_goto (tgt := 42) C dL_sign1_15 (by decide) ?_
      exact v_iret C hQ hr rfl (Nat.le_of_ble_eq_true rfl) (Nat.le_of_ble_eq_true rfl) dL_sign1_42 ⟨by rw [hTX, show p = 0 by omega]; rfl, rfl⟩
  · have hTX := (congrArg txtOf fT).trans (tx5 (F (4 * k + 1)))
    have d7 := dg_le7 f1
    have hp2 : p < sb_dg (F (4 * k + 1)) := by rw [hTX, dgl_len] at hp; exact hp
    refine v_aload_n C 2 rfl dL_sign1_0 rfl ?_
    refine v_iconst (v := 4) C dL_sign1_1 (by decide) ?_
    refine v_iload_n C 0 rfl dL_sign1_2 rfl ?_
    refine v_imul C dL_sign1_3 (v_eqi (nI_kml k 4 (by decide)) ?_)
    refine v_iald C hF (vpin (show 4 * k < 60 by omega) (by decide)) dL_sign1_4 (v_eqi (y := nI 5) ((congrArg (fun j => nI (F j)) (nI_clamp (show 4 * k < 2 ^ 31 by omega))).trans (congrArg nI f0)) ?_)
    refine v_iconst (v := 4) C dL_sign1_5 (by decide) ?_
    refine v_icmp_ne (tgt := 31) C dL_sign1_6 (by decide) (fun c8 => ?_) (fun c8 => absurd c8 (by decide))
    refine v_aload_n C 2 rfl dL_sign1_31 rfl ?_
    refine v_iconst (v := 4) C dL_sign1_32 (by decide) ?_
    refine v_iload_n C 0 rfl dL_sign1_33 rfl ?_
    refine v_imul C dL_sign1_34 (v_eqi (nI_kml k 4 (by decide)) ?_)
    refine v_iconst (v := 1) C dL_sign1_35 (by decide) ?_
    refine v_iadd C dL_sign1_36 (v_eqi (nI_adk (4 * k) 1 (by decide)) ?_)
    refine v_iald C hF (vpin (show 4 * k + 1 < 60 by omega) (by decide)) dL_sign1_37 (v_eqi (y := nI (F (4 * k + 1))) (congrArg (fun j => nI (F j)) (nI_clamp (show 4 * k + 1 < 2 ^ 31 by omega))) ?_)
    refine v_iload_n C 1 rfl dL_sign1_38 rfl ?_
    refine v_callS (rest := []) C (c_L_digit l hl G (F (4 * k + 1)) p h (by omega) hp2) S_L_18 rfl rfl (Nat.le_of_ble_eq_true rfl) ⟨Nat.le_of_ble_eq_true rfl, Nat.le_of_ble_eq_true rfl⟩ ⟨Nat.le_of_ble_eq_true rfl, Nat.le_of_ble_eq_true rfl⟩ dL_sign1_39 (fun i11 h11 q11 => ?_)
    obtain ⟨e11, rfl⟩ := q11; subst e11
    exact v_iret C hQ hr rfl (Nat.le_of_ble_eq_true rfl) (Nat.le_of_ble_eq_true rfl) dL_sign1_42 ⟨by rw [hTX, dgl_get hp2], rfl⟩
  · exact absurd (EV.tl he hw f1) (by omega)
  · exact absurd (he.lv1 (k := F (4 * k + 1)) (by omega)) (by omega)
  · exact absurd (he.lv1 (k := F (4 * k + 1)) (by omega)) (by omega)
  · exact absurd (he.lv1 (k := F (4 * k + 1)) (by omega)) (by omega)
set_option maxHeartbeats 4000000 in
set_option maxRecDepth 100000 in
theorem c_L_sign2 (l : Launch) (hl : l.stackTraces = false) (G : zG) (fa k p M : Nat) (F : Nat → Nat) (A D : Nat → Int32) (T : Nat → List Tok) (lv : Nat → Nat) (s : ZS) (h : zH) (hw : WFs s) (he : EV s F A D T lv M) (hF : iC G h fa 60 (fN F)) (hk : k < M) (hv : lv k ≤ 2) (hp : p < (txtOf (T k)).length) : zMet eI l yL_sign2 cL_sign2 10 (some .int) 15 0 0 G [.int (nI k), .int (nI p), .ref fa] h (fun r h2 => r = nI ((txtOf (T k)).getD p 0) ∧ h = h2) := by
  refine con_of hl RL rfl (by decide +kernel) [(0, .int (nI k)), (1, .int (nI p)), (2, .ref fa)] rfl (Nat.le_of_ble_eq_true rfl) ?_
  intro zp ze zs zm zargs zbelow zmeth zc C hr hin Q hQ
  have hp441 : p < 441 := Nat.lt_of_lt_of_le hp ((he.w6 hw hk).txl6 (Nat.le_refl _))
  have hM := he.1
  have hN6 := he.2.1
  obtain ⟨l1, l6, l3, hFE⟩ := he.2.2.1 k hk
  rcases hFE with ⟨f0, f1, fT, fl⟩ | ⟨f0, f1, fT, fl⟩ | ⟨f0, f1, fT, fl⟩ | ⟨f0, f1, f2, fT, fl⟩ | ⟨f0, f1, f2, fT, fl⟩ | ⟨f0, f1, fT, fl⟩
  · have hTX := (congrArg txtOf fT).trans (tx4 f1)
    have hp2 : p < 2 := by rw [hTX] at hp; exact hp
    refine v_aload_n C 2 rfl dL_sign2_0 rfl ?_
    refine v_iconst (v := 4) C dL_sign2_1 (by decide) ?_
    refine v_iload_n C 0 rfl dL_sign2_2 rfl ?_
    refine v_imul C dL_sign2_3 (v_eqi (nI_kml k 4 (by decide)) ?_)
    refine v_iald C hF (vpin (show 4 * k < 60 by omega) (by decide)) dL_sign2_4 (v_eqi (y := nI 4) ((congrArg (fun j => nI (F j)) (nI_clamp (show 4 * k < 2 ^ 31 by omega))).trans (congrArg nI f0)) ?_)
    refine v_istore_n C [(3, .int (nI 4)), (0, .int (nI k)), (1, .int (nI p)), (2, .ref fa)] rfl (by decide) dL_sign2_5 rfl ?_
    refine v_aload_n C 3 rfl dL_sign2_6 rfl ?_
    refine v_iconst (v := 4) C dL_sign2_7 (by decide) ?_
    refine v_iload_n C 1 rfl dL_sign2_8 rfl ?_
    refine v_imul C dL_sign2_9 (v_eqi (nI_kml k 4 (by decide)) ?_)
    refine v_iconst (v := 1) C dL_sign2_10 (by decide) ?_
    refine v_iadd C dL_sign2_11 (v_eqi (nI_adk (4 * k) 1 (by decide)) ?_)
    refine v_iald C hF (vpin (show 4 * k + 1 < 60 by omega) (by decide)) dL_sign2_12 (v_eqi (y := nI (F (4 * k + 1))) (congrArg (fun j => nI (F j)) (nI_clamp (show 4 * k + 1 < 2 ^ 31 by omega))) ?_)
    refine v_istore C [(4, .int (nI (F (4 * k + 1)))), (3, .int (nI 4)), (0, .int (nI k)), (1, .int (nI p)), (2, .ref fa)] rfl (by decide) dL_sign2_13 ?_
    refine v_aload_n C 4 rfl dL_sign2_15 rfl ?_
    refine v_iconst (v := 4) C dL_sign2_16 (by decide) ?_
    refine v_iload_n C 2 rfl dL_sign2_17 rfl ?_
    refine v_imul C dL_sign2_18 (v_eqi (nI_kml k 4 (by decide)) ?_)
    refine v_iconst (v := 2) C dL_sign2_19 (by decide) ?_
    refine v_iadd C dL_sign2_20 (v_eqi (nI_adk (4 * k) 2 (by decide)) ?_)
    refine v_iald C hF (vpin (show 4 * k + 2 < 60 by omega) (by decide)) dL_sign2_21 (v_eqi (y := nI (F (4 * k + 2))) (congrArg (fun j => nI (F j)) (nI_clamp (show 4 * k + 2 < 2 ^ 31 by omega))) ?_)
    refine v_istore C [(5, .int (nI (F (4 * k + 2)))), (4, .int (nI (F (4 * k + 1)))), (3, .int (nI 4)), (0, .int (nI k)), (1, .int (nI p)), (2, .ref fa)] rfl (by decide) dL_sign2_22 ?_
    refine v_iload_n C 2 rfl dL_sign2_24 rfl ?_
    refine v_iconst (v := 4) C dL_sign2_25 (by decide) ?_
    refine v_icmp_eq (tgt := 34) C dL_sign2_26 (by decide) (fun c6 => ?_) (fun c6 => absurd c6 (by decide))
    refine v_iload_n C 3 rfl dL_sign2_34 rfl ?_
    refine v_iload_n C 4 rfl dL_sign2_35 rfl ?_
    refine v_aload_n C 5 rfl dL_sign2_36 rfl ?_
    refine v_callS (rest := []) C (c_L_sign1 l hl G fa k p M F A D T lv s h hw he hF hk (by omega) hp) S_L_44 rfl rfl (Nat.le_of_ble_eq_true rfl) ⟨Nat.le_of_ble_eq_true rfl, Nat.le_of_ble_eq_true rfl⟩ ⟨Nat.le_of_ble_eq_true rfl, Nat.le_of_ble_eq_true rfl⟩ dL_sign2_37 (fun i7 h7 q7 => ?_)
    obtain ⟨e7, rfl⟩ := q7
    subst e7
    exact v_iret C hQ hr rfl (Nat.le_of_ble_eq_true rfl) (Nat.le_of_ble_eq_true rfl) dL_sign2_40 ⟨rfl, rfl⟩
  · have hTX := (congrArg txtOf fT).trans (tx5 (F (4 * k + 1)))
    have d7 := dg_le7 f1
    have hp2 : p < sb_dg (F (4 * k + 1)) := by rw [hTX, dgl_len] at hp; exact hp
    refine v_aload_n C 2 rfl dL_sign2_0 rfl ?_
    refine v_iconst (v := 4) C dL_sign2_1 (by decide) ?_
    refine v_iload_n C 0 rfl dL_sign2_2 rfl ?_
    refine v_imul C dL_sign2_3 (v_eqi (nI_kml k 4 (by decide)) ?_)
    refine v_iald C hF (vpin (show 4 * k < 60 by omega) (by decide)) dL_sign2_4 (v_eqi (y := nI 5) ((congrArg (fun j => nI (F j)) (nI_clamp (show 4 * k < 2 ^ 31 by omega))).trans (congrArg nI f0)) ?_)
    refine v_istore_n C [(3, .int (nI 5)), (0, .int (nI k)), (1, .int (nI p)), (2, .ref fa)] rfl (by decide) dL_sign2_5 rfl ?_
    refine v_aload_n C 3 rfl dL_sign2_6 rfl ?_
    refine v_iconst (v := 4) C dL_sign2_7 (by decide) ?_
    refine v_iload_n C 1 rfl dL_sign2_8 rfl ?_
    refine v_imul C dL_sign2_9 (v_eqi (nI_kml k 4 (by decide)) ?_)
    refine v_iconst (v := 1) C dL_sign2_10 (by decide) ?_
    refine v_iadd C dL_sign2_11 (v_eqi (nI_adk (4 * k) 1 (by decide)) ?_)
    refine v_iald C hF (vpin (show 4 * k + 1 < 60 by omega) (by decide)) dL_sign2_12 (v_eqi (y := nI (F (4 * k + 1))) (congrArg (fun j => nI (F j)) (nI_clamp (show 4 * k + 1 < 2 ^ 31 by omega))) ?_)
    refine v_istore C [(4, .int (nI (F (4 * k + 1)))), (3, .int (nI 5)), (0, .int (nI k)), (1, .int (nI p)), (2, .ref fa)] rfl (by decide) dL_sign2_13 ?_
    refine v_aload_n C 4 rfl dL_sign2_15 rfl ?_
    refine v_iconst (v := 4) C dL_sign2_16 (by decide) ?_
    refine v_iload_n C 2 rfl dL_sign2_17 rfl ?_
    refine v_imul C dL_sign2_18 (v_eqi (nI_kml k 4 (by decide)) ?_)
    refine v_iconst (v := 2) C dL_sign2_19 (by decide) ?_
    refine v_iadd C dL_sign2_20 (v_eqi (nI_adk (4 * k) 2 (by decide)) ?_)
    refine v_iald C hF (vpin (show 4 * k + 2 < 60 by omega) (by decide)) dL_sign2_21 (v_eqi (y := nI (F (4 * k + 2))) (congrArg (fun j => nI (F j)) (nI_clamp (show 4 * k + 2 < 2 ^ 31 by omega))) ?_)
    refine v_istore C [(5, .int (nI (F (4 * k + 2)))), (4, .int (nI (F (4 * k + 1)))), (3, .int (nI 5)), (0, .int (nI k)), (1, .int (nI p)), (2, .ref fa)] rfl (by decide) dL_sign2_22 ?_
    refine v_iload_n C 2 rfl dL_sign2_24 rfl ?_
    refine v_iconst (v := 4) C dL_sign2_25 (by decide) ?_
    refine v_icmp_eq (tgt := 34) C dL_sign2_26 (by decide) (fun c13 => absurd c13 (by decide)) (fun c13 => ?_)
    refine v_iload_n C 2 rfl dL_sign2_29 rfl ?_
    refine v_iconst (v := 5) C dL_sign2_30 (by decide) ?_
    refine v_icmp_ne (tgt := 41) C dL_sign2_31 (by decide) (fun c14 => absurd c14 (by decide)) (fun c14 => ?_)
    refine v_iload_n C 3 rfl dL_sign2_34 rfl ?_
    refine v_iload_n C 4 rfl dL_sign2_35 rfl ?_
    refine v_aload_n C 5 rfl dL_sign2_36 rfl ?_
    refine v_callS (rest := []) C (c_L_sign1 l hl G fa k p M F A D T lv s h hw he hF hk (by omega) hp) S_L_44 rfl rfl (Nat.le_of_ble_eq_true rfl) ⟨Nat.le_of_ble_eq_true rfl, Nat.le_of_ble_eq_true rfl⟩ ⟨Nat.le_of_ble_eq_true rfl, Nat.le_of_ble_eq_true rfl⟩ dL_sign2_37 (fun i15 h15 q15 => ?_)
    obtain ⟨e15, rfl⟩ := q15
    subst e15
    exact v_iret C hQ hr rfl (Nat.le_of_ble_eq_true rfl) (Nat.le_of_ble_eq_true rfl) dL_sign2_40 ⟨rfl, rfl⟩
  · have hTX := (congrArg txtOf fT).trans (tx6 (a := F (4 * k + 1)) (by omega))
    have hp2 : p < 2 := by rw [hTX] at hp; exact hp
    refine v_aload_n C 2 rfl dL_sign2_0 rfl ?_
    refine v_iconst (v := 4) C dL_sign2_1 (by decide) ?_
    refine v_iload_n C 0 rfl dL_sign2_2 rfl ?_
    refine v_imul C dL_sign2_3 (v_eqi (nI_kml k 4 (by decide)) ?_)
    refine v_iald C hF (vpin (show 4 * k < 60 by omega) (by decide)) dL_sign2_4 (v_eqi (y := nI 6) ((congrArg (fun j => nI (F j)) (nI_clamp (show 4 * k < 2 ^ 31 by omega))).trans (congrArg nI f0)) ?_)
    refine v_istore_n C [(3, .int (nI 6)), (0, .int (nI k)), (1, .int (nI p)), (2, .ref fa)] rfl (by decide) dL_sign2_5 rfl ?_
    refine v_aload_n C 3 rfl dL_sign2_6 rfl ?_
    refine v_iconst (v := 4) C dL_sign2_7 (by decide) ?_
    refine v_iload_n C 1 rfl dL_sign2_8 rfl ?_
    refine v_imul C dL_sign2_9 (v_eqi (nI_kml k 4 (by decide)) ?_)
    refine v_iconst (v := 1) C dL_sign2_10 (by decide) ?_
    refine v_iadd C dL_sign2_11 (v_eqi (nI_adk (4 * k) 1 (by decide)) ?_)
    refine v_iald C hF (vpin (show 4 * k + 1 < 60 by omega) (by decide)) dL_sign2_12 (v_eqi (y := nI (F (4 * k + 1))) (congrArg (fun j => nI (F j)) (nI_clamp (show 4 * k + 1 < 2 ^ 31 by omega))) ?_)
    refine v_istore C [(4, .int (nI (F (4 * k + 1)))), (3, .int (nI 6)), (0, .int (nI k)), (1, .int (nI p)), (2, .ref fa)] rfl (by decide) dL_sign2_13 ?_
    refine v_aload_n C 4 rfl dL_sign2_15 rfl ?_
    refine v_iconst (v := 4) C dL_sign2_16 (by decide) ?_
    refine v_iload_n C 2 rfl dL_sign2_17 rfl ?_
    refine v_imul C dL_sign2_18 (v_eqi (nI_kml k 4 (by decide)) ?_)
    refine v_iconst (v := 2) C dL_sign2_19 (by decide) ?_
    refine v_iadd C dL_sign2_20 (v_eqi (nI_adk (4 * k) 2 (by decide)) ?_)
    refine v_iald C hF (vpin (show 4 * k + 2 < 60 by omega) (by decide)) dL_sign2_21 (v_eqi (y := nI (F (4 * k + 2))) (congrArg (fun j => nI (F j)) (nI_clamp (show 4 * k + 2 < 2 ^ 31 by omega))) ?_)
    refine v_istore C [(5, .int (nI (F (4 * k + 2)))), (4, .int (nI (F (4 * k + 1)))), (3, .int (nI 6)), (0, .int (nI k)), (1, .int (nI p)), (2, .ref fa)] rfl (by decide) dL_sign2_22 ?_
    refine v_iload_n C 2 rfl dL_sign2_24 rfl ?_
    refine v_iconst (v := 4) C dL_sign2_25 (by decide) ?_
    refine v_icmp_eq (tgt := 34) C dL_sign2_26 (by decide) (fun c21 => absurd c21 (by decide)) (fun c21 => ?_)
    refine v_iload_n C 2 rfl dL_sign2_29 rfl ?_
    refine v_iconst (v := 5) C dL_sign2_30 (by decide) ?_
    refine v_icmp_ne (tgt := 41) C dL_sign2_31 (by decide) (fun c22 => ?_) (fun c22 => absurd c22 (by decide))
    refine v_iload_n C 2 rfl dL_sign2_41 rfl ?_
    refine v_bipush (v := 6) C dL_sign2_42 (by decide) ?_
    refine v_icmp_ne (tgt := 62) C dL_sign2_44 (by decide) (fun c23 => absurd c23 (by decide)) (fun c23 => ?_)
    refine v_iload_n C 4 rfl dL_sign2_47 rfl ?_
    refine v_if_ne (tgt := 56) C dL_sign2_48 (by decide) (fun c24 => ?_) (fun c24 => ?_)
    · have c24 := (nk_ne (a := p) 0 (by decide) (by omega) (by decide)).mp c24
      refine v_bipush (v := 48) C dL_sign2_56 (by decide) ?_
      refine v_iload C 1 rfl dL_sign2_58 ?_
      refine v_iadd C dL_sign2_60 (v_eqi (nI_kad (F (4 * k + 1)) 48 (by decide)) ?_)
      exact v_iret C hQ hr rfl (Nat.le_of_ble_eq_true rfl) (Nat.le_of_ble_eq_true rfl) dL_sign2_61 ⟨by rw [hTX, show p = 1 by omega]; rfl, rfl⟩
    · have c24 := (nk_ne_f (a := p) 0 (by decide) (by omega) (by decide)).mp c24
      refine v_bipush (v := 84) C dL_sign2_51 (by decide) ?_
      refine v_goto (tgt := 61) C dL_sign2_53 (by decide) ?_
      exact v_iret C hQ hr rfl (Nat.le_of_ble_eq_true rfl) (Nat.le_of_ble_eq_true rfl) dL_sign2_61 ⟨by rw [hTX, show p = 0 by omega]; rfl, rfl⟩
  · obtain ⟨X, hX⟩ : ∃ X, X = txtOf (T (F (4 * k + 1))) := ⟨_, rfl⟩
    have xl : X.length ≤ 441 := by rw [hX]; exact (he.w6 hw (k := F (4 * k + 1)) (by omega)).txl6 (Nat.le_refl _)
    obtain ⟨Y, hY⟩ : ∃ Y, Y = txtOf (T (F (4 * k + 2))) := ⟨_, rfl⟩
    have yl : Y.length ≤ 441 := by rw [hY]; exact (he.w6 hw (k := F (4 * k + 2)) (by omega)).txl6 (Nat.le_refl _)
    have hTX : txtOf (T k) = sjt (F (4 * k)) X Y := by rw [fT, txt_join (he.w6 hw (k := F (4 * k + 1)) (by omega)) (he.w6 hw (k := F (4 * k + 2)) (by omega)) f0, hX, hY]
    have hp2 := hp; rw [hTX, sjt_ln f0] at hp2
    refine v_aload_n C 2 rfl dL_sign2_0 rfl ?_
    refine v_iconst (v := 4) C dL_sign2_1 (by decide) ?_
    refine v_iload_n C 0 rfl dL_sign2_2 rfl ?_
    refine v_imul C dL_sign2_3 (v_eqi (nI_kml k 4 (by decide)) ?_)
    refine v_iald C hF (vpin (show 4 * k < 60 by omega) (by decide)) dL_sign2_4 (v_eqi (y := nI (F (4 * k))) ((congrArg (fun j => nI (F j)) (nI_clamp (show 4 * k < 2 ^ 31 by omega))).trans (congrArg nI rfl)) ?_)
    refine v_istore_n C [(3, .int (nI (F (4 * k)))), (0, .int (nI k)), (1, .int (nI p)), (2, .ref fa)] rfl (by decide) dL_sign2_5 rfl ?_
    refine v_aload_n C 3 rfl dL_sign2_6 rfl ?_
    refine v_iconst (v := 4) C dL_sign2_7 (by decide) ?_
    refine v_iload_n C 1 rfl dL_sign2_8 rfl ?_
    refine v_imul C dL_sign2_9 (v_eqi (nI_kml k 4 (by decide)) ?_)
    refine v_iconst (v := 1) C dL_sign2_10 (by decide) ?_
    refine v_iadd C dL_sign2_11 (v_eqi (nI_adk (4 * k) 1 (by decide)) ?_)
    refine v_iald C hF (vpin (show 4 * k + 1 < 60 by omega) (by decide)) dL_sign2_12 (v_eqi (y := nI (F (4 * k + 1))) (congrArg (fun j => nI (F j)) (nI_clamp (show 4 * k + 1 < 2 ^ 31 by omega))) ?_)
    refine v_istore C [(4, .int (nI (F (4 * k + 1)))), (3, .int (nI (F (4 * k)))), (0, .int (nI k)), (1, .int (nI p)), (2, .ref fa)] rfl (by decide) dL_sign2_13 ?_
    refine v_aload_n C 4 rfl dL_sign2_15 rfl ?_
    refine v_iconst (v := 4) C dL_sign2_16 (by decide) ?_
    refine v_iload_n C 2 rfl dL_sign2_17 rfl ?_
    refine v_imul C dL_sign2_18 (v_eqi (nI_kml k 4 (by decide)) ?_)
    refine v_iconst (v := 2) C dL_sign2_19 (by decide) ?_
    refine v_iadd C dL_sign2_20 (v_eqi (nI_adk (4 * k) 2 (by decide)) ?_)
    refine v_iald C hF (vpin (show 4 * k + 2 < 60 by omega) (by decide)) dL_sign2_21 (v_eqi (y := nI (F (4 * k + 2))) (congrArg (fun j => nI (F j)) (nI_clamp (show 4 * k + 2 < 2 ^ 31 by omega))) ?_)
    refine v_istore C [(5, .int (nI (F (4 * k + 2)))), (4, .int (nI (F (4 * k + 1)))), (3, .int (nI (F (4 * k)))), (0, .int (nI k)), (1, .int (nI p)), (2, .ref fa)] rfl (by decide) dL_sign2_22 ?_
    refine v_iload_n C 2 rfl dL_sign2_24 rfl ?_
    refine v_iconst (v := 4) C dL_sign2_25 (by decide) ?_
    refine v_icmp_eq (tgt := 34) C dL_sign2_26 (by decide) (fun c31 => absurd ((nk_eq (a := F (4 * k)) 4 (by decide) (by omega) (by decide)).mp c31) (by omega)) (fun c31 => ?_)
    have c31 := (nk_eq_f (a := (F (4 * k))) 4 (by decide) (by omega) (by decide)).mp c31
    refine v_iload_n C 2 rfl dL_sign2_29 rfl ?_
    refine v_iconst (v := 5) C dL_sign2_30 (by decide) ?_
    refine v_icmp_ne (tgt := 41) C dL_sign2_31 (by decide) (fun c32 => ?_) (fun c32 => absurd ((nk_ne_f (a := F (4 * k)) 5 (by decide) (by omega) (by decide)).mp c32) (by omega))
    have c32 := (nk_ne (a := (F (4 * k))) 5 (by decide) (by omega) (by decide)).mp c32
    refine v_iload_n C 2 rfl dL_sign2_41 rfl ?_
    refine v_bipush (v := 6) C dL_sign2_42 (by decide) ?_
    refine v_icmp_ne (tgt := 62) C dL_sign2_44 (by decide) (fun c33 => ?_) (fun c33 => absurd ((nk_ne_f (a := F (4 * k)) 6 (by decide) (by omega) (by decide)).mp c33) (by omega))
    have c33 := (nk_ne (a := (F (4 * k))) 6 (by decide) (by omega) (by decide)).mp c33
    refine v_iload_n C 2 rfl dL_sign2_62 rfl ?_
    refine v_bipush (v := 7) C dL_sign2_63 (by decide) ?_
    refine v_icmp_ne (tgt := 78) C dL_sign2_65 (by decide) (fun c34 => ?_) (fun c34 => absurd ((nk_ne_f (a := F (4 * k)) 7 (by decide) (by omega) (by decide)).mp c34) (by omega))
    have c34 := (nk_ne (a := (F (4 * k))) 7 (by decide) (by omega) (by decide)).mp c34
    refine v_iload_n C 2 rfl dL_sign2_78 rfl ?_
    refine v_bipush (v := 8) C dL_sign2_79 (by decide) ?_
    refine v_icmp_ne (tgt := 88) C dL_sign2_81 (by decide) (fun c35 => ?_) (fun c35 => absurd ((nk_ne_f (a := F (4 * k)) 8 (by decide) (by omega) (by decide)).mp c35) (by omega))
    have c35 := (nk_ne (a := (F (4 * k))) 8 (by decide) (by omega) (by decide)).mp c35
    refine v_iload_n C 2 rfl dL_sign2_88 rfl ?_
    refine v_iconst (v := 2) C dL_sign2_89 (by decide) ?_
    refine v_icmp_ge (tgt := 97) C dL_sign2_90 (by decide) (fun c36 => ?_) (fun c36 => ?_)
    · have c36 := (nk_ge (a := (F (4 * k))) 2 (by decide) (by omega) (by decide)).mp c36
      rw [if_neg (show ¬ F (4 * k) < 2 by omega)] at hp2
      have hfl : (fjn (F (4 * k))).length = 4 := (fjn_len f0).trans (if_neg (by omega))
      have hml : (mjn (F (4 * k))).length = 2 := (mjn_len f0).trans (if_neg (by omega))
      refine v_iconst (v := 4) C dL_sign2_97 (by decide) ?_
      refine v_istore C [(6, .int 4), (5, .int (nI (F (4 * k + 2)))), (4, .int (nI (F (4 * k + 1)))), (3, .int (nI (F (4 * k)))), (0, .int (nI k)), (1, .int (nI p)), (2, .ref fa)] rfl (by decide) dL_sign2_98 ?_
      refine v_iload C 2 rfl dL_sign2_100 ?_
      refine v_aload_n C 6 rfl dL_sign2_102 rfl ?_
      refine v_callS (rest := []) C (c_L_length1 l hl G fa (F (4 * k + 1)) M F A D T lv s h hw he hF (show F (4 * k + 1) < M by omega) (show lv (F (4 * k + 1)) ≤ 1 by omega)) S_L_40 rfl rfl (Nat.le_of_ble_eq_true rfl) ⟨Nat.le_of_ble_eq_true rfl, Nat.le_of_ble_eq_true rfl⟩ ⟨Nat.le_of_ble_eq_true rfl, Nat.le_of_ble_eq_true rfl⟩ dL_sign2_103 (fun i37 h37 q37 => ?_)
      obtain ⟨e37, rfl⟩ := q37
      rw [← hX] at e37
      subst e37
      refine v_istore C [(7, .int (nI X.length)), (6, .int 4), (5, .int (nI (F (4 * k + 2)))), (4, .int (nI (F (4 * k + 1)))), (3, .int (nI (F (4 * k)))), (0, .int (nI k)), (1, .int (nI p)), (2, .ref fa)] rfl (by decide) dL_sign2_106 ?_
      refine v_iload_n C 6 rfl dL_sign2_108 rfl ?_
      refine v_iload C 1 rfl dL_sign2_109 ?_
      refine v_icmp_ge (tgt := 122) C dL_sign2_111 (by decide) (fun c38 => ?_) (fun c38 => ?_)
      · have c38 := (nk_ge (a := p) 4 (by decide) (by omega) (by decide)).mp c38
        refine v_iload_n C 6 rfl dL_sign2_122 rfl ?_
        refine v_iload C 1 rfl dL_sign2_123 ?_
        refine v_iload C 0 rfl dL_sign2_125 ?_
        refine v_iadd C dL_sign2_127 (v_eqi (nI_kad X.length 4 (by decide)) ?_)
        refine v_icmp_ge (tgt := 142) C dL_sign2_128 (by decide) (fun c40 => ?_) (fun c40 => ?_)
        · have c40 := (nn_ge (a := p) (b := (4 + X.length)) (by omega) (by omega)).mp c40
          refine v_iload_n C 6 rfl dL_sign2_142 rfl ?_
          refine v_iload C 1 rfl dL_sign2_143 ?_
          refine v_isub C dL_sign2_145 (v_eqi (nI_sbk (a := p) 4 (by decide) (by omega)) ?_)
          refine v_iload C 0 rfl dL_sign2_146 ?_
          refine v_isub C dL_sign2_148 (v_eqi (pk_sub (a := (p - 4)) (b := X.length) (by omega)) ?_)
          refine v_istore C [(8, .int (nI ((p - 4) - X.length))), (7, .int (nI X.length)), (6, .int 4), (5, .int (nI (F (4 * k + 2)))), (4, .int (nI (F (4 * k + 1)))), (3, .int (nI (F (4 * k)))), (0, .int (nI k)), (1, .int (nI p)), (2, .ref fa)] rfl (by decide) dL_sign2_149 ?_
          refine v_iload_n C 5 rfl dL_sign2_151 rfl ?_
          refine v_iconst (v := 2) C dL_sign2_152 (by decide) ?_
          refine v_icmp_ge (tgt := 160) C dL_sign2_153 (by decide) (fun c43 => ?_) (fun c43 => absurd ((nk_ge_f (a := F (4 * k)) 2 (by decide) (by omega) (by decide)).mp c43) (by omega))
          have c43 := (nk_ge (a := (F (4 * k))) 2 (by decide) (by omega) (by decide)).mp c43
          refine v_iload_n C 5 rfl dL_sign2_160 rfl ?_
          refine v_iconst (v := 4) C dL_sign2_161 (by decide) ?_
          refine v_icmp_ge (tgt := 169) C dL_sign2_162 (by decide) (fun c44 => absurd ((nk_ge (a := F (4 * k)) 4 (by decide) (by omega) (by decide)).mp c44) (by omega)) (fun c44 => ?_)
          have c44 := (nk_ge_f (a := (F (4 * k))) 4 (by decide) (by omega) (by decide)).mp c44
          refine v_iconst (v := 2) C dL_sign2_165 (by decide) ?_
          refine v_goto (tgt := 170) C dL_sign2_166 (by decide) ?_
          refine v_istore C [(9, .int 2), (8, .int (nI ((p - 4) - X.length))), (7, .int (nI X.length)), (6, .int 4), (5, .int (nI (F (4 * k + 2)))), (4, .int (nI (F (4 * k + 1)))), (3, .int (nI (F (4 * k)))), (0, .int (nI k)), (1, .int (nI p)), (2, .ref fa)] rfl (by decide) dL_sign2_170 ?_
          refine v_iload C 1 rfl dL_sign2_172 ?_
          refine v_iload C 0 rfl dL_sign2_174 ?_
          refine v_icmp_ge (tgt := 222) C dL_sign2_176 (by decide) (fun c45 => ?_) (fun c45 => ?_)
          · have c45 := (nk_ge (a := ((p - 4) - X.length)) 2 (by decide) (by omega) (by decide)).mp c45
            refine v_iload_n C 6 rfl dL_sign2_222 rfl ?_
            refine v_iconst (v := 3) C dL_sign2_223 (by decide) ?_
            refine v_icmp_gt (tgt := 241) C dL_sign2_224 (by decide) (fun c46 => absurd ((nk_gt (a := F (4 * k)) 3 (by decide) (by omega) (by decide)).mp c46) (by omega)) (fun c46 => ?_)
            have c46 := (nk_gt_f (a := (F (4 * k))) 3 (by decide) (by omega) (by decide)).mp c46
            refine v_iload C 1 rfl dL_sign2_227 ?_
            refine v_iload C 0 rfl dL_sign2_229 ?_
            refine v_isub C dL_sign2_231 (v_eqi (nI_sbk (a := ((p - 4) - X.length)) 2 (by decide) (by omega)) ?_)
            refine v_iload C 4 rfl dL_sign2_232 ?_
            refine v_aload_n C 9 rfl dL_sign2_234 rfl ?_
            refine v_callS (rest := [.int (nI (((p - 4) - X.length) - 2))]) C (c_L_length1 l hl G fa (F (4 * k + 2)) M F A D T lv s h hw he hF (show F (4 * k + 2) < M by omega) (show lv (F (4 * k + 2)) ≤ 1 by omega)) S_L_40 rfl rfl (Nat.le_of_ble_eq_true rfl) ⟨Nat.le_of_ble_eq_true rfl, Nat.le_of_ble_eq_true rfl⟩ ⟨Nat.le_of_ble_eq_true rfl, Nat.le_of_ble_eq_true rfl⟩ dL_sign2_235 (fun i48 h48 q48 => ?_)
            obtain ⟨e48, rfl⟩ := q48
            rw [← hY] at e48
            subst e48
            refine v_icmp_ne (tgt := 246) C dL_sign2_238 (by decide) (fun c49 => ?_) (fun c49 => ?_)
            · have c49 := (nn_ne (a := (((p - 4) - X.length) - 2)) (b := Y.length) (by omega) (by omega)).mp c49
              refine v_iload C 4 rfl dL_sign2_246 ?_
              refine v_iload C 1 rfl dL_sign2_248 ?_
              refine v_iload C 0 rfl dL_sign2_250 ?_
              refine v_isub C dL_sign2_252 (v_eqi (nI_sbk (a := ((p - 4) - X.length)) 2 (by decide) (by omega)) ?_)
              refine v_aload_n C 9 rfl dL_sign2_253 rfl ?_
              refine v_callS (rest := []) C (c_L_sign1 l hl G fa (F (4 * k + 2)) (((p - 4) - X.length) - 2) M F A D T lv s h hw he hF (show F (4 * k + 2) < M by omega) (show lv (F (4 * k + 2)) ≤ 1 by omega) (by rw [← hY]; omega)) S_L_44 rfl rfl (Nat.le_of_ble_eq_true rfl) ⟨Nat.le_of_ble_eq_true rfl, Nat.le_of_ble_eq_true rfl⟩ ⟨Nat.le_of_ble_eq_true rfl, Nat.le_of_ble_eq_true rfl⟩ dL_sign2_254 (fun i51 h51 q51 => ?_)
              obtain ⟨e51, rfl⟩ := q51
              rw [← hY] at e51
              subst e51
              exact v_iret C hQ hr rfl (Nat.le_of_ble_eq_true rfl) (Nat.le_of_ble_eq_true rfl) dL_sign2_257 ⟨by rw [hTX, sjt_4 (by omega) (by omega), hfl, hml], rfl⟩
            · have c49 := (nn_ne_f (a := (((p - 4) - X.length) - 2)) (b := Y.length) (by omega) (by omega)).mp c49
              refine v_bipush (v := 41) C dL_sign2_241 (by decide) ?_
              refine v_goto (tgt := 257) C dL_sign2_243 (by decide) ?_
              exact v_iret C hQ hr rfl (Nat.le_of_ble_eq_true rfl) (Nat.le_of_ble_eq_true rfl) dL_sign2_257 ⟨by rw [hTX, sjt_5 (by omega)]; rfl, rfl⟩
          · have c45 := (nk_ge_f (a := ((p - 4) - X.length)) 2 (by decide) (by omega) (by decide)).mp c45
            refine v_iload_n C 6 rfl dL_sign2_179 rfl ?_
            refine v_iconst (v := 1) C dL_sign2_180 (by decide) ?_
            refine v_icmp_le (tgt := 199) C dL_sign2_181 (by decide) (fun c52 => absurd ((nk_le (a := F (4 * k)) 1 (by decide) (by omega) (by decide)).mp c52) (by omega)) (fun c52 => ?_)
            have c52 := (nk_le_f (a := (F (4 * k))) 1 (by decide) (by omega) (by decide)).mp c52
            refine v_iload C 1 rfl dL_sign2_184 ?_
            refine v_if_ne (tgt := 194) C dL_sign2_186 (by decide) (fun c53 => ?_) (fun c53 => ?_)
            · have c53 := (nk_ne (a := ((p - 4) - X.length)) 0 (by decide) (by omega) (by decide)).mp c53
              refine v_bipush (v := 32) C dL_sign2_194 (by decide) ?_
              refine v_goto (tgt := 221) C dL_sign2_196 (by decide) ?_
              exact v_iret C hQ hr rfl (Nat.le_of_ble_eq_true rfl) (Nat.le_of_ble_eq_true rfl) dL_sign2_221 ⟨by rw [hTX, sjt_3 (by omega) (by omega), hfl, mj_2 (by omega), show p - 4 - X.length = 1 by omega]; rfl, rfl⟩
            · have c53 := (nk_ne_f (a := ((p - 4) - X.length)) 0 (by decide) (by omega) (by decide)).mp c53
              refine v_bipush (v := 44) C dL_sign2_189 (by decide) ?_
              refine v_goto (tgt := 221) C dL_sign2_191 (by decide) ?_
              exact v_iret C hQ hr rfl (Nat.le_of_ble_eq_true rfl) (Nat.le_of_ble_eq_true rfl) dL_sign2_221 ⟨by rw [hTX, sjt_3 (by omega) (by omega), hfl, mj_2 (by omega), show p - 4 - X.length = 0 by omega]; rfl, rfl⟩
        · have c40 := (nn_ge_f (a := p) (b := (4 + X.length)) (by omega) (by omega)).mp c40
          refine v_iload C 3 rfl dL_sign2_131 ?_
          refine v_iload_n C 6 rfl dL_sign2_133 rfl ?_
          refine v_iload C 1 rfl dL_sign2_134 ?_
          refine v_isub C dL_sign2_136 (v_eqi (nI_sbk (a := p) 4 (by decide) (by omega)) ?_)
          refine v_aload_n C 7 rfl dL_sign2_137 rfl ?_
          refine v_callS (rest := []) C (c_L_sign1 l hl G fa (F (4 * k + 1)) (p - 4) M F A D T lv s h hw he hF (show F (4 * k + 1) < M by omega) (show lv (F (4 * k + 1)) ≤ 1 by omega) (by rw [← hX]; omega)) S_L_44 rfl rfl (Nat.le_of_ble_eq_true rfl) ⟨Nat.le_of_ble_eq_true rfl, Nat.le_of_ble_eq_true rfl⟩ ⟨Nat.le_of_ble_eq_true rfl, Nat.le_of_ble_eq_true rfl⟩ dL_sign2_138 (fun i55 h55 q55 => ?_)
          obtain ⟨e55, rfl⟩ := q55
          rw [← hX] at e55
          subst e55
          exact v_iret C hQ hr rfl (Nat.le_of_ble_eq_true rfl) (Nat.le_of_ble_eq_true rfl) dL_sign2_141 ⟨by rw [hTX, sjt_2 (by omega) (by omega), hfl], rfl⟩
      · have c38 := (nk_ge_f (a := p) 4 (by decide) (by omega) (by decide)).mp c38
        refine v_iload_n C 4 rfl dL_sign2_114 rfl ?_
        refine v_iload C 2 rfl dL_sign2_115 ?_
        refine v_iload_n C 6 rfl dL_sign2_117 rfl ?_
        refine v_callS (rest := []) C (c_L_front_j l hl G (F (4 * k)) (F (4 * k + 2)) p h f0 (by omega)) S_L_47 rfl rfl (Nat.le_of_ble_eq_true rfl) ⟨Nat.le_of_ble_eq_true rfl, Nat.le_of_ble_eq_true rfl⟩ ⟨Nat.le_of_ble_eq_true rfl, Nat.le_of_ble_eq_true rfl⟩ dL_sign2_118 (fun i56 h56 q56 => ?_)
        obtain ⟨e56, rfl⟩ := q56; subst e56
        exact v_iret C hQ hr rfl (Nat.le_of_ble_eq_true rfl) (Nat.le_of_ble_eq_true rfl) dL_sign2_121 ⟨by rw [hTX, sjt_1 (by omega)], rfl⟩
    · have c36 := (nk_ge_f (a := (F (4 * k))) 2 (by decide) (by omega) (by decide)).mp c36
      rw [if_pos (show F (4 * k) < 2 by omega)] at hp2
      have hfl : (fjn (F (4 * k))).length = 1 := (fjn_len f0).trans (if_pos (by omega))
      have hml : (mjn (F (4 * k))).length = 3 := (mjn_len f0).trans (if_pos (by omega))
      refine v_iconst (v := 1) C dL_sign2_93 (by decide) ?_
      refine v_goto (tgt := 98) C dL_sign2_94 (by decide) ?_
      refine v_istore C [(6, .int 1), (5, .int (nI (F (4 * k + 2)))), (4, .int (nI (F (4 * k + 1)))), (3, .int (nI (F (4 * k)))), (0, .int (nI k)), (1, .int (nI p)), (2, .ref fa)] rfl (by decide) dL_sign2_98 ?_
      refine v_iload C 2 rfl dL_sign2_100 ?_
      refine v_aload_n C 6 rfl dL_sign2_102 rfl ?_
      refine v_callS (rest := []) C (c_L_length1 l hl G fa (F (4 * k + 1)) M F A D T lv s h hw he hF (show F (4 * k + 1) < M by omega) (show lv (F (4 * k + 1)) ≤ 1 by omega)) S_L_40 rfl rfl (Nat.le_of_ble_eq_true rfl) ⟨Nat.le_of_ble_eq_true rfl, Nat.le_of_ble_eq_true rfl⟩ ⟨Nat.le_of_ble_eq_true rfl, Nat.le_of_ble_eq_true rfl⟩ dL_sign2_103 (fun i57 h57 q57 => ?_)
      obtain ⟨e57, rfl⟩ := q57
      rw [← hX] at e57
      subst e57
      refine v_istore C [(7, .int (nI X.length)), (6, .int 1), (5, .int (nI (F (4 * k + 2)))), (4, .int (nI (F (4 * k + 1)))), (3, .int (nI (F (4 * k)))), (0, .int (nI k)), (1, .int (nI p)), (2, .ref fa)] rfl (by decide) dL_sign2_106 ?_
      refine v_iload_n C 6 rfl dL_sign2_108 rfl ?_
      refine v_iload C 1 rfl dL_sign2_109 ?_
      refine v_icmp_ge (tgt := 122) C dL_sign2_111 (by decide) (fun c58 => ?_) (fun c58 => ?_)
      · have c58 := (nk_ge (a := p) 1 (by decide) (by omega) (by decide)).mp c58
        refine v_iload_n C 6 rfl dL_sign2_122 rfl ?_
        refine v_iload C 1 rfl dL_sign2_123 ?_
        refine v_iload C 0 rfl dL_sign2_125 ?_
        refine v_iadd C dL_sign2_127 (v_eqi (nI_kad X.length 1 (by decide)) ?_)
        refine v_icmp_ge (tgt := 142) C dL_sign2_128 (by decide) (fun c60 => ?_) (fun c60 => ?_)
        · have c60 := (nn_ge (a := p) (b := (1 + X.length)) (by omega) (by omega)).mp c60
          refine v_iload_n C 6 rfl dL_sign2_142 rfl ?_
          refine v_iload C 1 rfl dL_sign2_143 ?_
          refine v_isub C dL_sign2_145 (v_eqi (nI_sbk (a := p) 1 (by decide) (by omega)) ?_)
          refine v_iload C 0 rfl dL_sign2_146 ?_
          refine v_isub C dL_sign2_148 (v_eqi (pk_sub (a := (p - 1)) (b := X.length) (by omega)) ?_)
          refine v_istore C [(8, .int (nI ((p - 1) - X.length))), (7, .int (nI X.length)), (6, .int 1), (5, .int (nI (F (4 * k + 2)))), (4, .int (nI (F (4 * k + 1)))), (3, .int (nI (F (4 * k)))), (0, .int (nI k)), (1, .int (nI p)), (2, .ref fa)] rfl (by decide) dL_sign2_149 ?_
          refine v_iload_n C 5 rfl dL_sign2_151 rfl ?_
          refine v_iconst (v := 2) C dL_sign2_152 (by decide) ?_
          refine v_icmp_ge (tgt := 160) C dL_sign2_153 (by decide) (fun c63 => absurd ((nk_ge (a := F (4 * k)) 2 (by decide) (by omega) (by decide)).mp c63) (by omega)) (fun c63 => ?_)
          have c63 := (nk_ge_f (a := (F (4 * k))) 2 (by decide) (by omega) (by decide)).mp c63
          refine v_iconst (v := 3) C dL_sign2_156 (by decide) ?_
          refine v_goto (tgt := 170) C dL_sign2_157 (by decide) ?_
          refine v_istore C [(9, .int 3), (8, .int (nI ((p - 1) - X.length))), (7, .int (nI X.length)), (6, .int 1), (5, .int (nI (F (4 * k + 2)))), (4, .int (nI (F (4 * k + 1)))), (3, .int (nI (F (4 * k)))), (0, .int (nI k)), (1, .int (nI p)), (2, .ref fa)] rfl (by decide) dL_sign2_170 ?_
          refine v_iload C 1 rfl dL_sign2_172 ?_
          refine v_iload C 0 rfl dL_sign2_174 ?_
          refine v_icmp_ge (tgt := 222) C dL_sign2_176 (by decide) (fun c64 => ?_) (fun c64 => ?_)
          · have c64 := (nk_ge (a := ((p - 1) - X.length)) 3 (by decide) (by omega) (by decide)).mp c64
            refine v_iload_n C 6 rfl dL_sign2_222 rfl ?_
            refine v_iconst (v := 3) C dL_sign2_223 (by decide) ?_
            refine v_icmp_gt (tgt := 241) C dL_sign2_224 (by decide) (fun c65 => absurd ((nk_gt (a := F (4 * k)) 3 (by decide) (by omega) (by decide)).mp c65) (by omega)) (fun c65 => ?_)
            have c65 := (nk_gt_f (a := (F (4 * k))) 3 (by decide) (by omega) (by decide)).mp c65
            refine v_iload C 1 rfl dL_sign2_227 ?_
            refine v_iload C 0 rfl dL_sign2_229 ?_
            refine v_isub C dL_sign2_231 (v_eqi (nI_sbk (a := ((p - 1) - X.length)) 3 (by decide) (by omega)) ?_)
            refine v_iload C 4 rfl dL_sign2_232 ?_
            refine v_aload_n C 9 rfl dL_sign2_234 rfl ?_
            refine v_callS (rest := [.int (nI (((p - 1) - X.length) - 3))]) C (c_L_length1 l hl G fa (F (4 * k + 2)) M F A D T lv s h hw he hF (show F (4 * k + 2) < M by omega) (show lv (F (4 * k + 2)) ≤ 1 by omega)) S_L_40 rfl rfl (Nat.le_of_ble_eq_true rfl) ⟨Nat.le_of_ble_eq_true rfl, Nat.le_of_ble_eq_true rfl⟩ ⟨Nat.le_of_ble_eq_true rfl, Nat.le_of_ble_eq_true rfl⟩ dL_sign2_235 (fun i67 h67 q67 => ?_)
            obtain ⟨e67, rfl⟩ := q67
            rw [← hY] at e67
            subst e67
            refine v_icmp_ne (tgt := 246) C dL_sign2_238 (by decide) (fun c68 => ?_) (fun c68 => ?_)
            · have c68 := (nn_ne (a := (((p - 1) - X.length) - 3)) (b := Y.length) (by omega) (by omega)).mp c68
              refine v_iload C 4 rfl dL_sign2_246 ?_
              refine v_iload C 1 rfl dL_sign2_248 ?_
              refine v_iload C 0 rfl dL_sign2_250 ?_
              refine v_isub C dL_sign2_252 (v_eqi (nI_sbk (a := ((p - 1) - X.length)) 3 (by decide) (by omega)) ?_)
              refine v_aload_n C 9 rfl dL_sign2_253 rfl ?_
              refine v_callS (rest := []) C (c_L_sign1 l hl G fa (F (4 * k + 2)) (((p - 1) - X.length) - 3) M F A D T lv s h hw he hF (show F (4 * k + 2) < M by omega) (show lv (F (4 * k + 2)) ≤ 1 by omega) (by rw [← hY]; omega)) S_L_44 rfl rfl (Nat.le_of_ble_eq_true rfl) ⟨Nat.le_of_ble_eq_true rfl, Nat.le_of_ble_eq_true rfl⟩ ⟨Nat.le_of_ble_eq_true rfl, Nat.le_of_ble_eq_true rfl⟩ dL_sign2_254 (fun i70 h70 q70 => ?_)
              obtain ⟨e70, rfl⟩ := q70
              rw [← hY] at e70
              subst e70
              exact v_iret C hQ hr rfl (Nat.le_of_ble_eq_true rfl) (Nat.le_of_ble_eq_true rfl) dL_sign2_257 ⟨by rw [hTX, sjt_4 (by omega) (by omega), hfl, hml], rfl⟩
            · have c68 := (nn_ne_f (a := (((p - 1) - X.length) - 3)) (b := Y.length) (by omega) (by omega)).mp c68
              refine v_bipush (v := 41) C dL_sign2_241 (by decide) ?_
              refine v_goto (tgt := 257) C dL_sign2_243 (by decide) ?_
              exact v_iret C hQ hr rfl (Nat.le_of_ble_eq_true rfl) (Nat.le_of_ble_eq_true rfl) dL_sign2_257 ⟨by rw [hTX, sjt_5 (by omega)]; rfl, rfl⟩
          · have c64 := (nk_ge_f (a := ((p - 1) - X.length)) 3 (by decide) (by omega) (by decide)).mp c64
            refine v_iload_n C 6 rfl dL_sign2_179 rfl ?_
            refine v_iconst (v := 1) C dL_sign2_180 (by decide) ?_
            refine v_icmp_le (tgt := 199) C dL_sign2_181 (by decide) (fun c71 => ?_) (fun c71 => absurd ((nk_le_f (a := F (4 * k)) 1 (by decide) (by omega) (by decide)).mp c71) (by omega))
            have c71 := (nk_le (a := (F (4 * k))) 1 (by decide) (by omega) (by decide)).mp c71
            refine v_iload C 1 rfl dL_sign2_199 ?_
            refine v_iconst (v := 1) C dL_sign2_201 (by decide) ?_
            refine v_icmp_eq (tgt := 210) C dL_sign2_202 (by decide) (fun c72 => ?_) (fun c72 => ?_)
            · have c72 := (nk_eq (a := ((p - 1) - X.length)) 1 (by decide) (by omega) (by decide)).mp c72
              refine v_iload_n C 6 rfl dL_sign2_210 rfl ?_
              refine v_if_ne (tgt := 219) C dL_sign2_211 (by decide) (fun c73 => ?_) (fun c73 => ?_)
              · have c73 := (nk_ne (a := (F (4 * k))) 0 (by decide) (by omega) (by decide)).mp c73
                refine v_bipush (v := 45) C dL_sign2_219 (by decide) ?_
                exact v_iret C hQ hr rfl (Nat.le_of_ble_eq_true rfl) (Nat.le_of_ble_eq_true rfl) dL_sign2_221 ⟨by rw [hTX, sjt_3 (by omega) (by omega), hfl, show p - 1 - X.length = 1 by omega, show F (4 * k) = 1 by omega]; rfl, rfl⟩
              · have c73 := (nk_ne_f (a := (F (4 * k))) 0 (by decide) (by omega) (by decide)).mp c73
                refine v_bipush (v := 43) C dL_sign2_214 (by decide) ?_
                refine v_goto (tgt := 221) C dL_sign2_216 (by decide) ?_
                exact v_iret C hQ hr rfl (Nat.le_of_ble_eq_true rfl) (Nat.le_of_ble_eq_true rfl) dL_sign2_221 ⟨by rw [hTX, sjt_3 (by omega) (by omega), hfl, show p - 1 - X.length = 1 by omega, show F (4 * k) = 0 by omega]; rfl, rfl⟩
            · have c72 := (nk_eq_f (a := ((p - 1) - X.length)) 1 (by decide) (by omega) (by decide)).mp c72
              refine v_bipush (v := 32) C dL_sign2_205 (by decide) ?_
              refine v_goto (tgt := 221) C dL_sign2_207 (by decide) ?_
              exact v_iret C hQ hr rfl (Nat.le_of_ble_eq_true rfl) (Nat.le_of_ble_eq_true rfl) dL_sign2_221 ⟨by rw [hTX, sjt_3 (by omega) (by omega), hfl, mj_b (by omega) (by omega) (by omega)]; rfl, rfl⟩
        · have c60 := (nn_ge_f (a := p) (b := (1 + X.length)) (by omega) (by omega)).mp c60
          refine v_iload C 3 rfl dL_sign2_131 ?_
          refine v_iload_n C 6 rfl dL_sign2_133 rfl ?_
          refine v_iload C 1 rfl dL_sign2_134 ?_
          refine v_isub C dL_sign2_136 (v_eqi (nI_sbk (a := p) 1 (by decide) (by omega)) ?_)
          refine v_aload_n C 7 rfl dL_sign2_137 rfl ?_
          refine v_callS (rest := []) C (c_L_sign1 l hl G fa (F (4 * k + 1)) (p - 1) M F A D T lv s h hw he hF (show F (4 * k + 1) < M by omega) (show lv (F (4 * k + 1)) ≤ 1 by omega) (by rw [← hX]; omega)) S_L_44 rfl rfl (Nat.le_of_ble_eq_true rfl) ⟨Nat.le_of_ble_eq_true rfl, Nat.le_of_ble_eq_true rfl⟩ ⟨Nat.le_of_ble_eq_true rfl, Nat.le_of_ble_eq_true rfl⟩ dL_sign2_138 (fun i75 h75 q75 => ?_)
          obtain ⟨e75, rfl⟩ := q75
          rw [← hX] at e75
          subst e75
          exact v_iret C hQ hr rfl (Nat.le_of_ble_eq_true rfl) (Nat.le_of_ble_eq_true rfl) dL_sign2_141 ⟨by rw [hTX, sjt_2 (by omega) (by omega), hfl], rfl⟩
      · have c58 := (nk_ge_f (a := p) 1 (by decide) (by omega) (by decide)).mp c58
        refine v_iload_n C 4 rfl dL_sign2_114 rfl ?_
        refine v_iload C 2 rfl dL_sign2_115 ?_
        refine v_iload_n C 6 rfl dL_sign2_117 rfl ?_
        refine v_callS (rest := []) C (c_L_front_j l hl G (F (4 * k)) (F (4 * k + 2)) p h f0 (by omega)) S_L_47 rfl rfl (Nat.le_of_ble_eq_true rfl) ⟨Nat.le_of_ble_eq_true rfl, Nat.le_of_ble_eq_true rfl⟩ ⟨Nat.le_of_ble_eq_true rfl, Nat.le_of_ble_eq_true rfl⟩ dL_sign2_118 (fun i76 h76 q76 => ?_)
        obtain ⟨e76, rfl⟩ := q76; subst e76
        exact v_iret C hQ hr rfl (Nat.le_of_ble_eq_true rfl) (Nat.le_of_ble_eq_true rfl) dL_sign2_121 ⟨by rw [hTX, sjt_1 (by omega)], rfl⟩
  · obtain ⟨X, hX⟩ : ∃ X, X = txtOf (T (F (4 * k + 1))) := ⟨_, rfl⟩
    have xl : X.length ≤ 441 := by rw [hX]; exact (he.w6 hw (k := F (4 * k + 1)) (by omega)).txl6 (Nat.le_refl _)
    have hTX : txtOf (T k) = dgl (F (4 * k + 2)) ++ [37, 32, 111, 102, 32] ++ X := by rw [fT, txt_share (he.w6 hw (k := F (4 * k + 1)) (by omega)), hX]
    have d3 := dg_le3 f2
    have hp2 : p < sb_dg (F (4 * k + 2)) + 5 + X.length := by rw [hTX] at hp; simp only [List.length_append, dgl_len, List.length_cons, List.length_nil] at hp; omega
    refine v_aload_n C 2 rfl dL_sign2_0 rfl ?_
    refine v_iconst (v := 4) C dL_sign2_1 (by decide) ?_
    refine v_iload_n C 0 rfl dL_sign2_2 rfl ?_
    refine v_imul C dL_sign2_3 (v_eqi (nI_kml k 4 (by decide)) ?_)
    refine v_iald C hF (vpin (show 4 * k < 60 by omega) (by decide)) dL_sign2_4 (v_eqi (y := nI 7) ((congrArg (fun j => nI (F j)) (nI_clamp (show 4 * k < 2 ^ 31 by omega))).trans (congrArg nI f0)) ?_)
    refine v_istore_n C [(3, .int (nI 7)), (0, .int (nI k)), (1, .int (nI p)), (2, .ref fa)] rfl (by decide) dL_sign2_5 rfl ?_
    refine v_aload_n C 3 rfl dL_sign2_6 rfl ?_
    refine v_iconst (v := 4) C dL_sign2_7 (by decide) ?_
    refine v_iload_n C 1 rfl dL_sign2_8 rfl ?_
    refine v_imul C dL_sign2_9 (v_eqi (nI_kml k 4 (by decide)) ?_)
    refine v_iconst (v := 1) C dL_sign2_10 (by decide) ?_
    refine v_iadd C dL_sign2_11 (v_eqi (nI_adk (4 * k) 1 (by decide)) ?_)
    refine v_iald C hF (vpin (show 4 * k + 1 < 60 by omega) (by decide)) dL_sign2_12 (v_eqi (y := nI (F (4 * k + 1))) (congrArg (fun j => nI (F j)) (nI_clamp (show 4 * k + 1 < 2 ^ 31 by omega))) ?_)
    refine v_istore C [(4, .int (nI (F (4 * k + 1)))), (3, .int (nI 7)), (0, .int (nI k)), (1, .int (nI p)), (2, .ref fa)] rfl (by decide) dL_sign2_13 ?_
    refine v_aload_n C 4 rfl dL_sign2_15 rfl ?_
    refine v_iconst (v := 4) C dL_sign2_16 (by decide) ?_
    refine v_iload_n C 2 rfl dL_sign2_17 rfl ?_
    refine v_imul C dL_sign2_18 (v_eqi (nI_kml k 4 (by decide)) ?_)
    refine v_iconst (v := 2) C dL_sign2_19 (by decide) ?_
    refine v_iadd C dL_sign2_20 (v_eqi (nI_adk (4 * k) 2 (by decide)) ?_)
    refine v_iald C hF (vpin (show 4 * k + 2 < 60 by omega) (by decide)) dL_sign2_21 (v_eqi (y := nI (F (4 * k + 2))) (congrArg (fun j => nI (F j)) (nI_clamp (show 4 * k + 2 < 2 ^ 31 by omega))) ?_)
    refine v_istore C [(5, .int (nI (F (4 * k + 2)))), (4, .int (nI (F (4 * k + 1)))), (3, .int (nI 7)), (0, .int (nI k)), (1, .int (nI p)), (2, .ref fa)] rfl (by decide) dL_sign2_22 ?_
    refine v_iload_n C 2 rfl dL_sign2_24 rfl ?_
    refine v_iconst (v := 4) C dL_sign2_25 (by decide) ?_
    refine v_icmp_eq (tgt := 34) C dL_sign2_26 (by decide) (fun c82 => absurd c82 (by decide)) (fun c82 => ?_)
    refine v_iload_n C 2 rfl dL_sign2_29 rfl ?_
    refine v_iconst (v := 5) C dL_sign2_30 (by decide) ?_
    refine v_icmp_ne (tgt := 41) C dL_sign2_31 (by decide) (fun c83 => ?_) (fun c83 => absurd c83 (by decide))
    refine v_iload_n C 2 rfl dL_sign2_41 rfl ?_
    refine v_bipush (v := 6) C dL_sign2_42 (by decide) ?_
    refine v_icmp_ne (tgt := 62) C dL_sign2_44 (by decide) (fun c84 => ?_) (fun c84 => absurd c84 (by decide))
    refine v_iload_n C 2 rfl dL_sign2_62 rfl ?_
    refine v_bipush (v := 7) C dL_sign2_63 (by decide) ?_
    refine v_icmp_ne (tgt := 78) C dL_sign2_65 (by decide) (fun c85 => absurd c85 (by decide)) (fun c85 => ?_)
    refine v_iload C 0 rfl dL_sign2_68 ?_
    refine v_callS (rest := []) C (c_L_digits l hl G (F (4 * k + 2)) h (by omega)) S_L_12 rfl rfl (Nat.le_of_ble_eq_true rfl) ⟨Nat.le_of_ble_eq_true rfl, Nat.le_of_ble_eq_true rfl⟩ ⟨Nat.le_of_ble_eq_true rfl, Nat.le_of_ble_eq_true rfl⟩ dL_sign2_70 (fun i86 h86 q86 => ?_)
    obtain ⟨e86, rfl⟩ := q86; subst e86
    refine v_iconst (v := 5) C dL_sign2_73 (by decide) ?_
    refine v_iadd C dL_sign2_74 (v_eqi (nI_adk (sb_dg (F (4 * k + 2))) 5 (by decide)) ?_)
    refine v_goto (tgt := 98) C dL_sign2_75 (by decide) ?_
    refine v_istore C [(6, .int (nI ((sb_dg (F (4 * k + 2))) + 5))), (5, .int (nI (F (4 * k + 2)))), (4, .int (nI (F (4 * k + 1)))), (3, .int (nI 7)), (0, .int (nI k)), (1, .int (nI p)), (2, .ref fa)] rfl (by decide) dL_sign2_98 ?_
    refine v_iload C 2 rfl dL_sign2_100 ?_
    refine v_aload_n C 6 rfl dL_sign2_102 rfl ?_
    refine v_callS (rest := []) C (c_L_length1 l hl G fa (F (4 * k + 1)) M F A D T lv s h hw he hF (show F (4 * k + 1) < M by omega) (show lv (F (4 * k + 1)) ≤ 1 by omega)) S_L_40 rfl rfl (Nat.le_of_ble_eq_true rfl) ⟨Nat.le_of_ble_eq_true rfl, Nat.le_of_ble_eq_true rfl⟩ ⟨Nat.le_of_ble_eq_true rfl, Nat.le_of_ble_eq_true rfl⟩ dL_sign2_103 (fun i88 h88 q88 => ?_)
    obtain ⟨e88, rfl⟩ := q88
    rw [← hX] at e88
    subst e88
    refine v_istore C [(7, .int (nI X.length)), (6, .int (nI ((sb_dg (F (4 * k + 2))) + 5))), (5, .int (nI (F (4 * k + 2)))), (4, .int (nI (F (4 * k + 1)))), (3, .int (nI 7)), (0, .int (nI k)), (1, .int (nI p)), (2, .ref fa)] rfl (by decide) dL_sign2_106 ?_
    refine v_iload_n C 6 rfl dL_sign2_108 rfl ?_
    refine v_iload C 1 rfl dL_sign2_109 ?_
    refine v_icmp_ge (tgt := 122) C dL_sign2_111 (by decide) (fun c89 => ?_) (fun c89 => ?_)
    · have c89 := (nn_ge (a := p) (b := ((sb_dg (F (4 * k + 2))) + 5)) (by omega) (by omega)).mp c89
      refine v_iload_n C 6 rfl dL_sign2_122 rfl ?_
      refine v_iload C 1 rfl dL_sign2_123 ?_
      refine v_iload C 0 rfl dL_sign2_125 ?_
      refine v_iadd C dL_sign2_127 (v_eqi (nI_add ((sb_dg (F (4 * k + 2))) + 5) X.length) ?_)
      refine v_icmp_ge (tgt := 142) C dL_sign2_128 (by decide) (fun c91 => absurd ((nn_ge (a := p) (b := ((sb_dg (F (4 * k + 2))) + 5) + X.length) (by omega) (by omega)).mp c91) (by omega)) (fun c91 => ?_)
      have c91 := (nn_ge_f (a := p) (b := (((sb_dg (F (4 * k + 2))) + 5) + X.length)) (by omega) (by omega)).mp c91
      refine v_iload C 3 rfl dL_sign2_131 ?_
      refine v_iload_n C 6 rfl dL_sign2_133 rfl ?_
      refine v_iload C 1 rfl dL_sign2_134 ?_
      refine v_isub C dL_sign2_136 (v_eqi (pk_sub (a := p) (b := ((sb_dg (F (4 * k + 2))) + 5)) (by omega)) ?_)
      refine v_aload_n C 7 rfl dL_sign2_137 rfl ?_
      refine v_callS (rest := []) C (c_L_sign1 l hl G fa (F (4 * k + 1)) (p - ((sb_dg (F (4 * k + 2))) + 5)) M F A D T lv s h hw he hF (show F (4 * k + 1) < M by omega) (show lv (F (4 * k + 1)) ≤ 1 by omega) (by rw [← hX]; omega)) S_L_44 rfl rfl (Nat.le_of_ble_eq_true rfl) ⟨Nat.le_of_ble_eq_true rfl, Nat.le_of_ble_eq_true rfl⟩ ⟨Nat.le_of_ble_eq_true rfl, Nat.le_of_ble_eq_true rfl⟩ dL_sign2_138 (fun i93 h93 q93 => ?_)
      obtain ⟨e93, rfl⟩ := q93
      rw [← hX] at e93
      subst e93
      exact v_iret C hQ hr rfl (Nat.le_of_ble_eq_true rfl) (Nat.le_of_ble_eq_true rfl) dL_sign2_141 ⟨by rw [hTX, gd_r (by simp only [List.length_append, dgl_len, List.length_cons, List.length_nil]; omega)]; simp only [List.length_append, dgl_len, List.length_cons, List.length_nil], rfl⟩
    · have c89 := (nn_ge_f (a := p) (b := ((sb_dg (F (4 * k + 2))) + 5)) (by omega) (by omega)).mp c89
      refine v_iload_n C 4 rfl dL_sign2_114 rfl ?_
      refine v_iload C 2 rfl dL_sign2_115 ?_
      refine v_iload_n C 6 rfl dL_sign2_117 rfl ?_
      refine v_callS (rest := []) C (c_L_front_7 l hl G (F (4 * k + 2)) p h (by omega) (by omega)) S_L_47 rfl rfl (Nat.le_of_ble_eq_true rfl) ⟨Nat.le_of_ble_eq_true rfl, Nat.le_of_ble_eq_true rfl⟩ ⟨Nat.le_of_ble_eq_true rfl, Nat.le_of_ble_eq_true rfl⟩ dL_sign2_118 (fun i94 h94 q94 => ?_)
      obtain ⟨e94, rfl⟩ := q94; subst e94
      exact v_iret C hQ hr rfl (Nat.le_of_ble_eq_true rfl) (Nat.le_of_ble_eq_true rfl) dL_sign2_121 ⟨congrArg nI ((gd_l (b := X) (show p < (dgl (F (4 * k + 2)) ++ [37, 32, 111, 102, 32]).length by simp only [List.length_append, dgl_len, List.length_cons, List.length_nil]; omega)).symm.trans (congrArg (fun z => z.getD p 0) hTX.symm)), rfl⟩
  · obtain ⟨X, hX⟩ : ∃ X, X = txtOf (T (F (4 * k + 1))) := ⟨_, rfl⟩
    have xl : X.length ≤ 441 := by rw [hX]; exact (he.w6 hw (k := F (4 * k + 1)) (by omega)).txl6 (Nat.le_refl _)
    have hTX : txtOf (T k) = [121, 101, 97, 114, 40] ++ X ++ [41] := by rw [fT, txt_year (he.w6 hw (k := F (4 * k + 1)) (by omega)), hX]
    have hp2 : p < 5 + X.length + 1 := by rw [hTX] at hp; simp only [List.length_append, List.length_cons, List.length_nil] at hp; omega
    refine v_aload_n C 2 rfl dL_sign2_0 rfl ?_
    refine v_iconst (v := 4) C dL_sign2_1 (by decide) ?_
    refine v_iload_n C 0 rfl dL_sign2_2 rfl ?_
    refine v_imul C dL_sign2_3 (v_eqi (nI_kml k 4 (by decide)) ?_)
    refine v_iald C hF (vpin (show 4 * k < 60 by omega) (by decide)) dL_sign2_4 (v_eqi (y := nI 8) ((congrArg (fun j => nI (F j)) (nI_clamp (show 4 * k < 2 ^ 31 by omega))).trans (congrArg nI f0)) ?_)
    refine v_istore_n C [(3, .int (nI 8)), (0, .int (nI k)), (1, .int (nI p)), (2, .ref fa)] rfl (by decide) dL_sign2_5 rfl ?_
    refine v_aload_n C 3 rfl dL_sign2_6 rfl ?_
    refine v_iconst (v := 4) C dL_sign2_7 (by decide) ?_
    refine v_iload_n C 1 rfl dL_sign2_8 rfl ?_
    refine v_imul C dL_sign2_9 (v_eqi (nI_kml k 4 (by decide)) ?_)
    refine v_iconst (v := 1) C dL_sign2_10 (by decide) ?_
    refine v_iadd C dL_sign2_11 (v_eqi (nI_adk (4 * k) 1 (by decide)) ?_)
    refine v_iald C hF (vpin (show 4 * k + 1 < 60 by omega) (by decide)) dL_sign2_12 (v_eqi (y := nI (F (4 * k + 1))) (congrArg (fun j => nI (F j)) (nI_clamp (show 4 * k + 1 < 2 ^ 31 by omega))) ?_)
    refine v_istore C [(4, .int (nI (F (4 * k + 1)))), (3, .int (nI 8)), (0, .int (nI k)), (1, .int (nI p)), (2, .ref fa)] rfl (by decide) dL_sign2_13 ?_
    refine v_aload_n C 4 rfl dL_sign2_15 rfl ?_
    refine v_iconst (v := 4) C dL_sign2_16 (by decide) ?_
    refine v_iload_n C 2 rfl dL_sign2_17 rfl ?_
    refine v_imul C dL_sign2_18 (v_eqi (nI_kml k 4 (by decide)) ?_)
    refine v_iconst (v := 2) C dL_sign2_19 (by decide) ?_
    refine v_iadd C dL_sign2_20 (v_eqi (nI_adk (4 * k) 2 (by decide)) ?_)
    refine v_iald C hF (vpin (show 4 * k + 2 < 60 by omega) (by decide)) dL_sign2_21 (v_eqi (y := nI (F (4 * k + 2))) (congrArg (fun j => nI (F j)) (nI_clamp (show 4 * k + 2 < 2 ^ 31 by omega))) ?_)
    refine v_istore C [(5, .int (nI (F (4 * k + 2)))), (4, .int (nI (F (4 * k + 1)))), (3, .int (nI 8)), (0, .int (nI k)), (1, .int (nI p)), (2, .ref fa)] rfl (by decide) dL_sign2_22 ?_
    refine v_iload_n C 2 rfl dL_sign2_24 rfl ?_
    refine v_iconst (v := 4) C dL_sign2_25 (by decide) ?_
    refine v_icmp_eq (tgt := 34) C dL_sign2_26 (by decide) (fun c100 => absurd c100 (by decide)) (fun c100 => ?_)
    refine v_iload_n C 2 rfl dL_sign2_29 rfl ?_
    refine v_iconst (v := 5) C dL_sign2_30 (by decide) ?_
    refine v_icmp_ne (tgt := 41) C dL_sign2_31 (by decide) (fun c101 => ?_) (fun c101 => absurd c101 (by decide))
    refine v_iload_n C 2 rfl dL_sign2_41 rfl ?_
    refine v_bipush (v := 6) C dL_sign2_42 (by decide) ?_
    refine v_icmp_ne (tgt := 62) C dL_sign2_44 (by decide) (fun c102 => ?_) (fun c102 => absurd c102 (by decide))
    refine v_iload_n C 2 rfl dL_sign2_62 rfl ?_
    refine v_bipush (v := 7) C dL_sign2_63 (by decide) ?_
    refine v_icmp_ne (tgt := 78) C dL_sign2_65 (by decide) (fun c103 => ?_) (fun c103 => absurd c103 (by decide))
    refine v_iload_n C 2 rfl dL_sign2_78 rfl ?_
    refine v_bipush (v := 8) C dL_sign2_79 (by decide) ?_
    refine v_icmp_ne (tgt := 88) C dL_sign2_81 (by decide) (fun c104 => absurd c104 (by decide)) (fun c104 => ?_)
    refine v_iconst (v := 5) C dL_sign2_84 (by decide) ?_
    refine v_goto (tgt := 98) C dL_sign2_85 (by decide) ?_
    refine v_istore C [(6, .int 5), (5, .int (nI (F (4 * k + 2)))), (4, .int (nI (F (4 * k + 1)))), (3, .int (nI 8)), (0, .int (nI k)), (1, .int (nI p)), (2, .ref fa)] rfl (by decide) dL_sign2_98 ?_
    refine v_iload C 2 rfl dL_sign2_100 ?_
    refine v_aload_n C 6 rfl dL_sign2_102 rfl ?_
    refine v_callS (rest := []) C (c_L_length1 l hl G fa (F (4 * k + 1)) M F A D T lv s h hw he hF (show F (4 * k + 1) < M by omega) (show lv (F (4 * k + 1)) ≤ 1 by omega)) S_L_40 rfl rfl (Nat.le_of_ble_eq_true rfl) ⟨Nat.le_of_ble_eq_true rfl, Nat.le_of_ble_eq_true rfl⟩ ⟨Nat.le_of_ble_eq_true rfl, Nat.le_of_ble_eq_true rfl⟩ dL_sign2_103 (fun i105 h105 q105 => ?_)
    obtain ⟨e105, rfl⟩ := q105
    rw [← hX] at e105
    subst e105
    refine v_istore C [(7, .int (nI X.length)), (6, .int 5), (5, .int (nI (F (4 * k + 2)))), (4, .int (nI (F (4 * k + 1)))), (3, .int (nI 8)), (0, .int (nI k)), (1, .int (nI p)), (2, .ref fa)] rfl (by decide) dL_sign2_106 ?_
    refine v_iload_n C 6 rfl dL_sign2_108 rfl ?_
    refine v_iload C 1 rfl dL_sign2_109 ?_
    refine v_icmp_ge (tgt := 122) C dL_sign2_111 (by decide) (fun c106 => ?_) (fun c106 => ?_)
    · have c106 := (nk_ge (a := p) 5 (by decide) (by omega) (by decide)).mp c106
      refine v_iload_n C 6 rfl dL_sign2_122 rfl ?_
      refine v_iload C 1 rfl dL_sign2_123 ?_
      refine v_iload C 0 rfl dL_sign2_125 ?_
      refine v_iadd C dL_sign2_127 (v_eqi (nI_kad X.length 5 (by decide)) ?_)
      refine v_icmp_ge (tgt := 142) C dL_sign2_128 (by decide) (fun c108 => ?_) (fun c108 => ?_)
      · have c108 := (nn_ge (a := p) (b := (5 + X.length)) (by omega) (by omega)).mp c108
        refine v_iload_n C 6 rfl dL_sign2_142 rfl ?_
        refine v_iload C 1 rfl dL_sign2_143 ?_
        refine v_isub C dL_sign2_145 (v_eqi (nI_sbk (a := p) 5 (by decide) (by omega)) ?_)
        refine v_iload C 0 rfl dL_sign2_146 ?_
        refine v_isub C dL_sign2_148 (v_eqi (pk_sub (a := (p - 5)) (b := X.length) (by omega)) ?_)
        refine v_istore C [(8, .int (nI ((p - 5) - X.length))), (7, .int (nI X.length)), (6, .int 5), (5, .int (nI (F (4 * k + 2)))), (4, .int (nI (F (4 * k + 1)))), (3, .int (nI 8)), (0, .int (nI k)), (1, .int (nI p)), (2, .ref fa)] rfl (by decide) dL_sign2_149 ?_
        refine v_iload_n C 5 rfl dL_sign2_151 rfl ?_
        refine v_iconst (v := 2) C dL_sign2_152 (by decide) ?_
        refine v_icmp_ge (tgt := 160) C dL_sign2_153 (by decide) (fun c111 => ?_) (fun c111 => absurd c111 (by decide))
        refine v_iload_n C 5 rfl dL_sign2_160 rfl ?_
        refine v_iconst (v := 4) C dL_sign2_161 (by decide) ?_
        refine v_icmp_ge (tgt := 169) C dL_sign2_162 (by decide) (fun c112 => ?_) (fun c112 => absurd c112 (by decide))
        refine v_iconst (v := 0) C dL_sign2_169 (by decide) ?_
        refine v_istore C [(9, .int 0), (8, .int (nI ((p - 5) - X.length))), (7, .int (nI X.length)), (6, .int 5), (5, .int (nI (F (4 * k + 2)))), (4, .int (nI (F (4 * k + 1)))), (3, .int (nI 8)), (0, .int (nI k)), (1, .int (nI p)), (2, .ref fa)] rfl (by decide) dL_sign2_170 ?_
        refine v_iload C 1 rfl dL_sign2_172 ?_
        refine v_iload C 0 rfl dL_sign2_174 ?_
        refine v_icmp_ge (tgt := 222) C dL_sign2_176 (by decide) (fun c113 => ?_) (fun c113 => absurd ((nk_ge_f (a := (p - 5) - X.length) 0 (by decide) (by omega) (by decide)).mp c113) (by omega))
        have c113 := (nk_ge (a := ((p - 5) - X.length)) 0 (by decide) (by omega) (by decide)).mp c113
        refine v_iload_n C 6 rfl dL_sign2_222 rfl ?_
        refine v_iconst (v := 3) C dL_sign2_223 (by decide) ?_
        refine v_icmp_gt (tgt := 241) C dL_sign2_224 (by decide) (fun c114 => ?_) (fun c114 => absurd c114 (by decide))
        refine v_bipush (v := 41) C dL_sign2_241 (by decide) ?_
        refine v_goto (tgt := 257) C dL_sign2_243 (by decide) ?_
        exact v_iret C hQ hr rfl (Nat.le_of_ble_eq_true rfl) (Nat.le_of_ble_eq_true rfl) dL_sign2_257 ⟨by rw [hTX, List.append_assoc, gd_r (show 5 ≤ p by omega)]; show _ = nI ((X ++ [41]).getD (p - 5) 0); rw [gd_r (show X.length ≤ p - 5 by omega)]; rw [show p - 5 - X.length = 0 by omega]; rfl, rfl⟩
      · have c108 := (nn_ge_f (a := p) (b := (5 + X.length)) (by omega) (by omega)).mp c108
        refine v_iload C 3 rfl dL_sign2_131 ?_
        refine v_iload_n C 6 rfl dL_sign2_133 rfl ?_
        refine v_iload C 1 rfl dL_sign2_134 ?_
        refine v_isub C dL_sign2_136 (v_eqi (nI_sbk (a := p) 5 (by decide) (by omega)) ?_)
        refine v_aload_n C 7 rfl dL_sign2_137 rfl ?_
        refine v_callS (rest := []) C (c_L_sign1 l hl G fa (F (4 * k + 1)) (p - 5) M F A D T lv s h hw he hF (show F (4 * k + 1) < M by omega) (show lv (F (4 * k + 1)) ≤ 1 by omega) (by rw [← hX]; omega)) S_L_44 rfl rfl (Nat.le_of_ble_eq_true rfl) ⟨Nat.le_of_ble_eq_true rfl, Nat.le_of_ble_eq_true rfl⟩ ⟨Nat.le_of_ble_eq_true rfl, Nat.le_of_ble_eq_true rfl⟩ dL_sign2_138 (fun i116 h116 q116 => ?_)
        obtain ⟨e116, rfl⟩ := q116
        rw [← hX] at e116
        subst e116
        exact v_iret C hQ hr rfl (Nat.le_of_ble_eq_true rfl) (Nat.le_of_ble_eq_true rfl) dL_sign2_141 ⟨by rw [hTX, List.append_assoc, gd_r (show 5 ≤ p by omega)]; show _ = nI ((X ++ [41]).getD (p - 5) 0); rw [gd_l (show p - 5 < X.length by omega)], rfl⟩
    · have c106 := (nk_ge_f (a := p) 5 (by decide) (by omega) (by decide)).mp c106
      refine v_iload_n C 4 rfl dL_sign2_114 rfl ?_
      refine v_iload C 2 rfl dL_sign2_115 ?_
      refine v_iload_n C 6 rfl dL_sign2_117 rfl ?_
      refine v_callS (rest := []) C (c_L_front_8 l hl G (F (4 * k + 2)) p h (by omega)) S_L_47 rfl rfl (Nat.le_of_ble_eq_true rfl) ⟨Nat.le_of_ble_eq_true rfl, Nat.le_of_ble_eq_true rfl⟩ ⟨Nat.le_of_ble_eq_true rfl, Nat.le_of_ble_eq_true rfl⟩ dL_sign2_118 (fun i117 h117 q117 => ?_)
      obtain ⟨e117, rfl⟩ := q117; subst e117
      exact v_iret C hQ hr rfl (Nat.le_of_ble_eq_true rfl) (Nat.le_of_ble_eq_true rfl) dL_sign2_121 ⟨by rw [hTX, List.append_assoc, gd_l (show p < 5 by omega)], rfl⟩
set_option maxHeartbeats 4000000 in
set_option maxRecDepth 100000 in
theorem c_L_sign3 (l : Launch) (hl : l.stackTraces = false) (G : zG) (fa k p M : Nat) (F : Nat → Nat) (A D : Nat → Int32) (T : Nat → List Tok) (lv : Nat → Nat) (s : ZS) (h : zH) (hw : WFs s) (he : EV s F A D T lv M) (hF : iC G h fa 60 (fN F)) (hk : k < M) (hv : lv k ≤ 3) (hp : p < (txtOf (T k)).length) : zMet eI l yL_sign3 cL_sign3 10 (some .int) 16 0 0 G [.int (nI k), .int (nI p), .ref fa] h (fun r h2 => r = nI ((txtOf (T k)).getD p 0) ∧ h = h2) := by
  refine con_of hl RL rfl (by decide +kernel) [(0, .int (nI k)), (1, .int (nI p)), (2, .ref fa)] rfl (Nat.le_of_ble_eq_true rfl) ?_
  intro zp ze zs zm zargs zbelow zmeth zc C hr hin Q hQ
  have hp441 : p < 441 := Nat.lt_of_lt_of_le hp ((he.w6 hw hk).txl6 (Nat.le_refl _))
  have hM := he.1
  have hN6 := he.2.1
  obtain ⟨l1, l6, l3, hFE⟩ := he.2.2.1 k hk
  rcases hFE with ⟨f0, f1, fT, fl⟩ | ⟨f0, f1, fT, fl⟩ | ⟨f0, f1, fT, fl⟩ | ⟨f0, f1, f2, fT, fl⟩ | ⟨f0, f1, f2, fT, fl⟩ | ⟨f0, f1, fT, fl⟩
  · have hTX := (congrArg txtOf fT).trans (tx4 f1)
    have hp2 : p < 2 := by rw [hTX] at hp; exact hp
    refine v_aload_n C 2 rfl dL_sign3_0 rfl ?_
    refine v_iconst (v := 4) C dL_sign3_1 (by decide) ?_
    refine v_iload_n C 0 rfl dL_sign3_2 rfl ?_
    refine v_imul C dL_sign3_3 (v_eqi (nI_kml k 4 (by decide)) ?_)
    refine v_iald C hF (vpin (show 4 * k < 60 by omega) (by decide)) dL_sign3_4 (v_eqi (y := nI 4) ((congrArg (fun j => nI (F j)) (nI_clamp (show 4 * k < 2 ^ 31 by omega))).trans (congrArg nI f0)) ?_)
    refine v_istore_n C [(3, .int (nI 4)), (0, .int (nI k)), (1, .int (nI p)), (2, .ref fa)] rfl (by decide) dL_sign3_5 rfl ?_
    refine v_aload_n C 3 rfl dL_sign3_6 rfl ?_
    refine v_iconst (v := 4) C dL_sign3_7 (by decide) ?_
    refine v_iload_n C 1 rfl dL_sign3_8 rfl ?_
    refine v_imul C dL_sign3_9 (v_eqi (nI_kml k 4 (by decide)) ?_)
    refine v_iconst (v := 1) C dL_sign3_10 (by decide) ?_
    refine v_iadd C dL_sign3_11 (v_eqi (nI_adk (4 * k) 1 (by decide)) ?_)
    refine v_iald C hF (vpin (show 4 * k + 1 < 60 by omega) (by decide)) dL_sign3_12 (v_eqi (y := nI (F (4 * k + 1))) (congrArg (fun j => nI (F j)) (nI_clamp (show 4 * k + 1 < 2 ^ 31 by omega))) ?_)
    refine v_istore C [(4, .int (nI (F (4 * k + 1)))), (3, .int (nI 4)), (0, .int (nI k)), (1, .int (nI p)), (2, .ref fa)] rfl (by decide) dL_sign3_13 ?_
    refine v_aload_n C 4 rfl dL_sign3_15 rfl ?_
    refine v_iconst (v := 4) C dL_sign3_16 (by decide) ?_
    refine v_iload_n C 2 rfl dL_sign3_17 rfl ?_
    refine v_imul C dL_sign3_18 (v_eqi (nI_kml k 4 (by decide)) ?_)
    refine v_iconst (v := 2) C dL_sign3_19 (by decide) ?_
    refine v_iadd C dL_sign3_20 (v_eqi (nI_adk (4 * k) 2 (by decide)) ?_)
    refine v_iald C hF (vpin (show 4 * k + 2 < 60 by omega) (by decide)) dL_sign3_21 (v_eqi (y := nI (F (4 * k + 2))) (congrArg (fun j => nI (F j)) (nI_clamp (show 4 * k + 2 < 2 ^ 31 by omega))) ?_)
    refine v_istore C [(5, .int (nI (F (4 * k + 2)))), (4, .int (nI (F (4 * k + 1)))), (3, .int (nI 4)), (0, .int (nI k)), (1, .int (nI p)), (2, .ref fa)] rfl (by decide) dL_sign3_22 ?_
    refine v_iload_n C 2 rfl dL_sign3_24 rfl ?_
    refine v_iconst (v := 4) C dL_sign3_25 (by decide) ?_
    refine v_icmp_eq (tgt := 34) C dL_sign3_26 (by decide) (fun c6 => ?_) (fun c6 => absurd c6 (by decide))
    refine v_iload_n C 3 rfl dL_sign3_34 rfl ?_
    refine v_iload_n C 4 rfl dL_sign3_35 rfl ?_
    refine v_aload_n C 5 rfl dL_sign3_36 rfl ?_
    refine v_callS (rest := []) C (c_L_sign1 l hl G fa k p M F A D T lv s h hw he hF hk (by omega) hp) S_L_44 rfl rfl (Nat.le_of_ble_eq_true rfl) ⟨Nat.le_of_ble_eq_true rfl, Nat.le_of_ble_eq_true rfl⟩ ⟨Nat.le_of_ble_eq_true rfl, Nat.le_of_ble_eq_true rfl⟩ dL_sign3_37 (fun i7 h7 q7 => ?_)
    obtain ⟨e7, rfl⟩ := q7
    subst e7
    exact v_iret C hQ hr rfl (Nat.le_of_ble_eq_true rfl) (Nat.le_of_ble_eq_true rfl) dL_sign3_40 ⟨rfl, rfl⟩
  · have hTX := (congrArg txtOf fT).trans (tx5 (F (4 * k + 1)))
    have d7 := dg_le7 f1
    have hp2 : p < sb_dg (F (4 * k + 1)) := by rw [hTX, dgl_len] at hp; exact hp
    refine v_aload_n C 2 rfl dL_sign3_0 rfl ?_
    refine v_iconst (v := 4) C dL_sign3_1 (by decide) ?_
    refine v_iload_n C 0 rfl dL_sign3_2 rfl ?_
    refine v_imul C dL_sign3_3 (v_eqi (nI_kml k 4 (by decide)) ?_)
    refine v_iald C hF (vpin (show 4 * k < 60 by omega) (by decide)) dL_sign3_4 (v_eqi (y := nI 5) ((congrArg (fun j => nI (F j)) (nI_clamp (show 4 * k < 2 ^ 31 by omega))).trans (congrArg nI f0)) ?_)
    refine v_istore_n C [(3, .int (nI 5)), (0, .int (nI k)), (1, .int (nI p)), (2, .ref fa)] rfl (by decide) dL_sign3_5 rfl ?_
    refine v_aload_n C 3 rfl dL_sign3_6 rfl ?_
    refine v_iconst (v := 4) C dL_sign3_7 (by decide) ?_
    refine v_iload_n C 1 rfl dL_sign3_8 rfl ?_
    refine v_imul C dL_sign3_9 (v_eqi (nI_kml k 4 (by decide)) ?_)
    refine v_iconst (v := 1) C dL_sign3_10 (by decide) ?_
    refine v_iadd C dL_sign3_11 (v_eqi (nI_adk (4 * k) 1 (by decide)) ?_)
    refine v_iald C hF (vpin (show 4 * k + 1 < 60 by omega) (by decide)) dL_sign3_12 (v_eqi (y := nI (F (4 * k + 1))) (congrArg (fun j => nI (F j)) (nI_clamp (show 4 * k + 1 < 2 ^ 31 by omega))) ?_)
    refine v_istore C [(4, .int (nI (F (4 * k + 1)))), (3, .int (nI 5)), (0, .int (nI k)), (1, .int (nI p)), (2, .ref fa)] rfl (by decide) dL_sign3_13 ?_
    refine v_aload_n C 4 rfl dL_sign3_15 rfl ?_
    refine v_iconst (v := 4) C dL_sign3_16 (by decide) ?_
    refine v_iload_n C 2 rfl dL_sign3_17 rfl ?_
    refine v_imul C dL_sign3_18 (v_eqi (nI_kml k 4 (by decide)) ?_)
    refine v_iconst (v := 2) C dL_sign3_19 (by decide) ?_
    refine v_iadd C dL_sign3_20 (v_eqi (nI_adk (4 * k) 2 (by decide)) ?_)
    refine v_iald C hF (vpin (show 4 * k + 2 < 60 by omega) (by decide)) dL_sign3_21 (v_eqi (y := nI (F (4 * k + 2))) (congrArg (fun j => nI (F j)) (nI_clamp (show 4 * k + 2 < 2 ^ 31 by omega))) ?_)
    refine v_istore C [(5, .int (nI (F (4 * k + 2)))), (4, .int (nI (F (4 * k + 1)))), (3, .int (nI 5)), (0, .int (nI k)), (1, .int (nI p)), (2, .ref fa)] rfl (by decide) dL_sign3_22 ?_
    refine v_iload_n C 2 rfl dL_sign3_24 rfl ?_
    refine v_iconst (v := 4) C dL_sign3_25 (by decide) ?_
    refine v_icmp_eq (tgt := 34) C dL_sign3_26 (by decide) (fun c13 => absurd c13 (by decide)) (fun c13 => ?_)
    refine v_iload_n C 2 rfl dL_sign3_29 rfl ?_
    refine v_iconst (v := 5) C dL_sign3_30 (by decide) ?_
    refine v_icmp_ne (tgt := 41) C dL_sign3_31 (by decide) (fun c14 => absurd c14 (by decide)) (fun c14 => ?_)
    refine v_iload_n C 3 rfl dL_sign3_34 rfl ?_
    refine v_iload_n C 4 rfl dL_sign3_35 rfl ?_
    refine v_aload_n C 5 rfl dL_sign3_36 rfl ?_
    refine v_callS (rest := []) C (c_L_sign1 l hl G fa k p M F A D T lv s h hw he hF hk (by omega) hp) S_L_44 rfl rfl (Nat.le_of_ble_eq_true rfl) ⟨Nat.le_of_ble_eq_true rfl, Nat.le_of_ble_eq_true rfl⟩ ⟨Nat.le_of_ble_eq_true rfl, Nat.le_of_ble_eq_true rfl⟩ dL_sign3_37 (fun i15 h15 q15 => ?_)
    obtain ⟨e15, rfl⟩ := q15
    subst e15
    exact v_iret C hQ hr rfl (Nat.le_of_ble_eq_true rfl) (Nat.le_of_ble_eq_true rfl) dL_sign3_40 ⟨rfl, rfl⟩
  · have hTX := (congrArg txtOf fT).trans (tx6 (a := F (4 * k + 1)) (by omega))
    have hp2 : p < 2 := by rw [hTX] at hp; exact hp
    refine v_aload_n C 2 rfl dL_sign3_0 rfl ?_
    refine v_iconst (v := 4) C dL_sign3_1 (by decide) ?_
    refine v_iload_n C 0 rfl dL_sign3_2 rfl ?_
    refine v_imul C dL_sign3_3 (v_eqi (nI_kml k 4 (by decide)) ?_)
    refine v_iald C hF (vpin (show 4 * k < 60 by omega) (by decide)) dL_sign3_4 (v_eqi (y := nI 6) ((congrArg (fun j => nI (F j)) (nI_clamp (show 4 * k < 2 ^ 31 by omega))).trans (congrArg nI f0)) ?_)
    refine v_istore_n C [(3, .int (nI 6)), (0, .int (nI k)), (1, .int (nI p)), (2, .ref fa)] rfl (by decide) dL_sign3_5 rfl ?_
    refine v_aload_n C 3 rfl dL_sign3_6 rfl ?_
    refine v_iconst (v := 4) C dL_sign3_7 (by decide) ?_
    refine v_iload_n C 1 rfl dL_sign3_8 rfl ?_
    refine v_imul C dL_sign3_9 (v_eqi (nI_kml k 4 (by decide)) ?_)
    refine v_iconst (v := 1) C dL_sign3_10 (by decide) ?_
    refine v_iadd C dL_sign3_11 (v_eqi (nI_adk (4 * k) 1 (by decide)) ?_)
    refine v_iald C hF (vpin (show 4 * k + 1 < 60 by omega) (by decide)) dL_sign3_12 (v_eqi (y := nI (F (4 * k + 1))) (congrArg (fun j => nI (F j)) (nI_clamp (show 4 * k + 1 < 2 ^ 31 by omega))) ?_)
    refine v_istore C [(4, .int (nI (F (4 * k + 1)))), (3, .int (nI 6)), (0, .int (nI k)), (1, .int (nI p)), (2, .ref fa)] rfl (by decide) dL_sign3_13 ?_
    refine v_aload_n C 4 rfl dL_sign3_15 rfl ?_
    refine v_iconst (v := 4) C dL_sign3_16 (by decide) ?_
    refine v_iload_n C 2 rfl dL_sign3_17 rfl ?_
    refine v_imul C dL_sign3_18 (v_eqi (nI_kml k 4 (by decide)) ?_)
    refine v_iconst (v := 2) C dL_sign3_19 (by decide) ?_
    refine v_iadd C dL_sign3_20 (v_eqi (nI_adk (4 * k) 2 (by decide)) ?_)
    refine v_iald C hF (vpin (show 4 * k + 2 < 60 by omega) (by decide)) dL_sign3_21 (v_eqi (y := nI (F (4 * k + 2))) (congrArg (fun j => nI (F j)) (nI_clamp (show 4 * k + 2 < 2 ^ 31 by omega))) ?_)
    refine v_istore C [(5, .int (nI (F (4 * k + 2)))), (4, .int (nI (F (4 * k + 1)))), (3, .int (nI 6)), (0, .int (nI k)), (1, .int (nI p)), (2, .ref fa)] rfl (by decide) dL_sign3_22 ?_
    refine v_iload_n C 2 rfl dL_sign3_24 rfl ?_
    refine v_iconst (v := 4) C dL_sign3_25 (by decide) ?_
    refine v_icmp_eq (tgt := 34) C dL_sign3_26 (by decide) (fun c21 => absurd c21 (by decide)) (fun c21 => ?_)
    refine v_iload_n C 2 rfl dL_sign3_29 rfl ?_
    refine v_iconst (v := 5) C dL_sign3_30 (by decide) ?_
    refine v_icmp_ne (tgt := 41) C dL_sign3_31 (by decide) (fun c22 => ?_) (fun c22 => absurd c22 (by decide))
    refine v_iload_n C 2 rfl dL_sign3_41 rfl ?_
    refine v_bipush (v := 6) C dL_sign3_42 (by decide) ?_
    refine v_icmp_ne (tgt := 62) C dL_sign3_44 (by decide) (fun c23 => absurd c23 (by decide)) (fun c23 => ?_)
    refine v_iload_n C 4 rfl dL_sign3_47 rfl ?_
    refine v_if_ne (tgt := 56) C dL_sign3_48 (by decide) (fun c24 => ?_) (fun c24 => ?_)
    · have c24 := (nk_ne (a := p) 0 (by decide) (by omega) (by decide)).mp c24
      refine v_bipush (v := 48) C dL_sign3_56 (by decide) ?_
      refine v_iload C 1 rfl dL_sign3_58 ?_
      refine v_iadd C dL_sign3_60 (v_eqi (nI_kad (F (4 * k + 1)) 48 (by decide)) ?_)
      exact v_iret C hQ hr rfl (Nat.le_of_ble_eq_true rfl) (Nat.le_of_ble_eq_true rfl) dL_sign3_61 ⟨by rw [hTX, show p = 1 by omega]; rfl, rfl⟩
    · have c24 := (nk_ne_f (a := p) 0 (by decide) (by omega) (by decide)).mp c24
      refine v_bipush (v := 84) C dL_sign3_51 (by decide) ?_
      refine v_goto (tgt := 61) C dL_sign3_53 (by decide) ?_
      exact v_iret C hQ hr rfl (Nat.le_of_ble_eq_true rfl) (Nat.le_of_ble_eq_true rfl) dL_sign3_61 ⟨by rw [hTX, show p = 0 by omega]; rfl, rfl⟩
  · obtain ⟨X, hX⟩ : ∃ X, X = txtOf (T (F (4 * k + 1))) := ⟨_, rfl⟩
    have xl : X.length ≤ 441 := by rw [hX]; exact (he.w6 hw (k := F (4 * k + 1)) (by omega)).txl6 (Nat.le_refl _)
    obtain ⟨Y, hY⟩ : ∃ Y, Y = txtOf (T (F (4 * k + 2))) := ⟨_, rfl⟩
    have yl : Y.length ≤ 441 := by rw [hY]; exact (he.w6 hw (k := F (4 * k + 2)) (by omega)).txl6 (Nat.le_refl _)
    have hTX : txtOf (T k) = sjt (F (4 * k)) X Y := by rw [fT, txt_join (he.w6 hw (k := F (4 * k + 1)) (by omega)) (he.w6 hw (k := F (4 * k + 2)) (by omega)) f0, hX, hY]
    have hp2 := hp; rw [hTX, sjt_ln f0] at hp2
    refine v_aload_n C 2 rfl dL_sign3_0 rfl ?_
    refine v_iconst (v := 4) C dL_sign3_1 (by decide) ?_
    refine v_iload_n C 0 rfl dL_sign3_2 rfl ?_
    refine v_imul C dL_sign3_3 (v_eqi (nI_kml k 4 (by decide)) ?_)
    refine v_iald C hF (vpin (show 4 * k < 60 by omega) (by decide)) dL_sign3_4 (v_eqi (y := nI (F (4 * k))) ((congrArg (fun j => nI (F j)) (nI_clamp (show 4 * k < 2 ^ 31 by omega))).trans (congrArg nI rfl)) ?_)
    refine v_istore_n C [(3, .int (nI (F (4 * k)))), (0, .int (nI k)), (1, .int (nI p)), (2, .ref fa)] rfl (by decide) dL_sign3_5 rfl ?_
    refine v_aload_n C 3 rfl dL_sign3_6 rfl ?_
    refine v_iconst (v := 4) C dL_sign3_7 (by decide) ?_
    refine v_iload_n C 1 rfl dL_sign3_8 rfl ?_
    refine v_imul C dL_sign3_9 (v_eqi (nI_kml k 4 (by decide)) ?_)
    refine v_iconst (v := 1) C dL_sign3_10 (by decide) ?_
    refine v_iadd C dL_sign3_11 (v_eqi (nI_adk (4 * k) 1 (by decide)) ?_)
    refine v_iald C hF (vpin (show 4 * k + 1 < 60 by omega) (by decide)) dL_sign3_12 (v_eqi (y := nI (F (4 * k + 1))) (congrArg (fun j => nI (F j)) (nI_clamp (show 4 * k + 1 < 2 ^ 31 by omega))) ?_)
    refine v_istore C [(4, .int (nI (F (4 * k + 1)))), (3, .int (nI (F (4 * k)))), (0, .int (nI k)), (1, .int (nI p)), (2, .ref fa)] rfl (by decide) dL_sign3_13 ?_
    refine v_aload_n C 4 rfl dL_sign3_15 rfl ?_
    refine v_iconst (v := 4) C dL_sign3_16 (by decide) ?_
    refine v_iload_n C 2 rfl dL_sign3_17 rfl ?_
    refine v_imul C dL_sign3_18 (v_eqi (nI_kml k 4 (by decide)) ?_)
    refine v_iconst (v := 2) C dL_sign3_19 (by decide) ?_
    refine v_iadd C dL_sign3_20 (v_eqi (nI_adk (4 * k) 2 (by decide)) ?_)
    refine v_iald C hF (vpin (show 4 * k + 2 < 60 by omega) (by decide)) dL_sign3_21 (v_eqi (y := nI (F (4 * k + 2))) (congrArg (fun j => nI (F j)) (nI_clamp (show 4 * k + 2 < 2 ^ 31 by omega))) ?_)
    refine v_istore C [(5, .int (nI (F (4 * k + 2)))), (4, .int (nI (F (4 * k + 1)))), (3, .int (nI (F (4 * k)))), (0, .int (nI k)), (1, .int (nI p)), (2, .ref fa)] rfl (by decide) dL_sign3_22 ?_
    refine v_iload_n C 2 rfl dL_sign3_24 rfl ?_
    refine v_iconst (v := 4) C dL_sign3_25 (by decide) ?_
    refine v_icmp_eq (tgt := 34) C dL_sign3_26 (by decide) (fun c31 => absurd ((nk_eq (a := F (4 * k)) 4 (by decide) (by omega) (by decide)).mp c31) (by omega)) (fun c31 => ?_)
    have c31 := (nk_eq_f (a := (F (4 * k))) 4 (by decide) (by omega) (by decide)).mp c31
    refine v_iload_n C 2 rfl dL_sign3_29 rfl ?_
    refine v_iconst (v := 5) C dL_sign3_30 (by decide) ?_
    refine v_icmp_ne (tgt := 41) C dL_sign3_31 (by decide) (fun c32 => ?_) (fun c32 => absurd ((nk_ne_f (a := F (4 * k)) 5 (by decide) (by omega) (by decide)).mp c32) (by omega))
    have c32 := (nk_ne (a := (F (4 * k))) 5 (by decide) (by omega) (by decide)).mp c32
    refine v_iload_n C 2 rfl dL_sign3_41 rfl ?_
    refine v_bipush (v := 6) C dL_sign3_42 (by decide) ?_
    refine v_icmp_ne (tgt := 62) C dL_sign3_44 (by decide) (fun c33 => ?_) (fun c33 => absurd ((nk_ne_f (a := F (4 * k)) 6 (by decide) (by omega) (by decide)).mp c33) (by omega))
    have c33 := (nk_ne (a := (F (4 * k))) 6 (by decide) (by omega) (by decide)).mp c33
    refine v_iload_n C 2 rfl dL_sign3_62 rfl ?_
    refine v_bipush (v := 7) C dL_sign3_63 (by decide) ?_
    refine v_icmp_ne (tgt := 78) C dL_sign3_65 (by decide) (fun c34 => ?_) (fun c34 => absurd ((nk_ne_f (a := F (4 * k)) 7 (by decide) (by omega) (by decide)).mp c34) (by omega))
    have c34 := (nk_ne (a := (F (4 * k))) 7 (by decide) (by omega) (by decide)).mp c34
    refine v_iload_n C 2 rfl dL_sign3_78 rfl ?_
    refine v_bipush (v := 8) C dL_sign3_79 (by decide) ?_
    refine v_icmp_ne (tgt := 88) C dL_sign3_81 (by decide) (fun c35 => ?_) (fun c35 => absurd ((nk_ne_f (a := F (4 * k)) 8 (by decide) (by omega) (by decide)).mp c35) (by omega))
    have c35 := (nk_ne (a := (F (4 * k))) 8 (by decide) (by omega) (by decide)).mp c35
    refine v_iload_n C 2 rfl dL_sign3_88 rfl ?_
    refine v_iconst (v := 2) C dL_sign3_89 (by decide) ?_
    refine v_icmp_ge (tgt := 97) C dL_sign3_90 (by decide) (fun c36 => ?_) (fun c36 => ?_)
    · have c36 := (nk_ge (a := (F (4 * k))) 2 (by decide) (by omega) (by decide)).mp c36
      rw [if_neg (show ¬ F (4 * k) < 2 by omega)] at hp2
      have hfl : (fjn (F (4 * k))).length = 4 := (fjn_len f0).trans (if_neg (by omega))
      have hml : (mjn (F (4 * k))).length = 2 := (mjn_len f0).trans (if_neg (by omega))
      refine v_iconst (v := 4) C dL_sign3_97 (by decide) ?_
      refine v_istore C [(6, .int 4), (5, .int (nI (F (4 * k + 2)))), (4, .int (nI (F (4 * k + 1)))), (3, .int (nI (F (4 * k)))), (0, .int (nI k)), (1, .int (nI p)), (2, .ref fa)] rfl (by decide) dL_sign3_98 ?_
      refine v_iload C 2 rfl dL_sign3_100 ?_
      refine v_aload_n C 6 rfl dL_sign3_102 rfl ?_
      refine v_callS (rest := []) C (c_L_length2 l hl G fa (F (4 * k + 1)) M F A D T lv s h hw he hF (show F (4 * k + 1) < M by omega) (show lv (F (4 * k + 1)) ≤ 2 by omega)) S_L_55 rfl rfl (Nat.le_of_ble_eq_true rfl) ⟨Nat.le_of_ble_eq_true rfl, Nat.le_of_ble_eq_true rfl⟩ ⟨Nat.le_of_ble_eq_true rfl, Nat.le_of_ble_eq_true rfl⟩ dL_sign3_103 (fun i37 h37 q37 => ?_)
      obtain ⟨e37, rfl⟩ := q37
      rw [← hX] at e37
      subst e37
      refine v_istore C [(7, .int (nI X.length)), (6, .int 4), (5, .int (nI (F (4 * k + 2)))), (4, .int (nI (F (4 * k + 1)))), (3, .int (nI (F (4 * k)))), (0, .int (nI k)), (1, .int (nI p)), (2, .ref fa)] rfl (by decide) dL_sign3_106 ?_
      refine v_iload_n C 6 rfl dL_sign3_108 rfl ?_
      refine v_iload C 1 rfl dL_sign3_109 ?_
      refine v_icmp_ge (tgt := 122) C dL_sign3_111 (by decide) (fun c38 => ?_) (fun c38 => ?_)
      · have c38 := (nk_ge (a := p) 4 (by decide) (by omega) (by decide)).mp c38
        refine v_iload_n C 6 rfl dL_sign3_122 rfl ?_
        refine v_iload C 1 rfl dL_sign3_123 ?_
        refine v_iload C 0 rfl dL_sign3_125 ?_
        refine v_iadd C dL_sign3_127 (v_eqi (nI_kad X.length 4 (by decide)) ?_)
        refine v_icmp_ge (tgt := 142) C dL_sign3_128 (by decide) (fun c40 => ?_) (fun c40 => ?_)
        · have c40 := (nn_ge (a := p) (b := (4 + X.length)) (by omega) (by omega)).mp c40
          refine v_iload_n C 6 rfl dL_sign3_142 rfl ?_
          refine v_iload C 1 rfl dL_sign3_143 ?_
          refine v_isub C dL_sign3_145 (v_eqi (nI_sbk (a := p) 4 (by decide) (by omega)) ?_)
          refine v_iload C 0 rfl dL_sign3_146 ?_
          refine v_isub C dL_sign3_148 (v_eqi (pk_sub (a := (p - 4)) (b := X.length) (by omega)) ?_)
          refine v_istore C [(8, .int (nI ((p - 4) - X.length))), (7, .int (nI X.length)), (6, .int 4), (5, .int (nI (F (4 * k + 2)))), (4, .int (nI (F (4 * k + 1)))), (3, .int (nI (F (4 * k)))), (0, .int (nI k)), (1, .int (nI p)), (2, .ref fa)] rfl (by decide) dL_sign3_149 ?_
          refine v_iload_n C 5 rfl dL_sign3_151 rfl ?_
          refine v_iconst (v := 2) C dL_sign3_152 (by decide) ?_
          refine v_icmp_ge (tgt := 160) C dL_sign3_153 (by decide) (fun c43 => ?_) (fun c43 => absurd ((nk_ge_f (a := F (4 * k)) 2 (by decide) (by omega) (by decide)).mp c43) (by omega))
          have c43 := (nk_ge (a := (F (4 * k))) 2 (by decide) (by omega) (by decide)).mp c43
          refine v_iload_n C 5 rfl dL_sign3_160 rfl ?_
          refine v_iconst (v := 4) C dL_sign3_161 (by decide) ?_
          refine v_icmp_ge (tgt := 169) C dL_sign3_162 (by decide) (fun c44 => absurd ((nk_ge (a := F (4 * k)) 4 (by decide) (by omega) (by decide)).mp c44) (by omega)) (fun c44 => ?_)
          have c44 := (nk_ge_f (a := (F (4 * k))) 4 (by decide) (by omega) (by decide)).mp c44
          refine v_iconst (v := 2) C dL_sign3_165 (by decide) ?_
          refine v_goto (tgt := 170) C dL_sign3_166 (by decide) ?_
          refine v_istore C [(9, .int 2), (8, .int (nI ((p - 4) - X.length))), (7, .int (nI X.length)), (6, .int 4), (5, .int (nI (F (4 * k + 2)))), (4, .int (nI (F (4 * k + 1)))), (3, .int (nI (F (4 * k)))), (0, .int (nI k)), (1, .int (nI p)), (2, .ref fa)] rfl (by decide) dL_sign3_170 ?_
          refine v_iload C 1 rfl dL_sign3_172 ?_
          refine v_iload C 0 rfl dL_sign3_174 ?_
          refine v_icmp_ge (tgt := 222) C dL_sign3_176 (by decide) (fun c45 => ?_) (fun c45 => ?_)
          · have c45 := (nk_ge (a := ((p - 4) - X.length)) 2 (by decide) (by omega) (by decide)).mp c45
            refine v_iload_n C 6 rfl dL_sign3_222 rfl ?_
            refine v_iconst (v := 3) C dL_sign3_223 (by decide) ?_
            refine v_icmp_gt (tgt := 241) C dL_sign3_224 (by decide) (fun c46 => absurd ((nk_gt (a := F (4 * k)) 3 (by decide) (by omega) (by decide)).mp c46) (by omega)) (fun c46 => ?_)
            have c46 := (nk_gt_f (a := (F (4 * k))) 3 (by decide) (by omega) (by decide)).mp c46
            refine v_iload C 1 rfl dL_sign3_227 ?_
            refine v_iload C 0 rfl dL_sign3_229 ?_
            refine v_isub C dL_sign3_231 (v_eqi (nI_sbk (a := ((p - 4) - X.length)) 2 (by decide) (by omega)) ?_)
            refine v_iload C 4 rfl dL_sign3_232 ?_
            refine v_aload_n C 9 rfl dL_sign3_234 rfl ?_
            refine v_callS (rest := [.int (nI (((p - 4) - X.length) - 2))]) C (c_L_length2 l hl G fa (F (4 * k + 2)) M F A D T lv s h hw he hF (show F (4 * k + 2) < M by omega) (show lv (F (4 * k + 2)) ≤ 2 by omega)) S_L_55 rfl rfl (Nat.le_of_ble_eq_true rfl) ⟨Nat.le_of_ble_eq_true rfl, Nat.le_of_ble_eq_true rfl⟩ ⟨Nat.le_of_ble_eq_true rfl, Nat.le_of_ble_eq_true rfl⟩ dL_sign3_235 (fun i48 h48 q48 => ?_)
            obtain ⟨e48, rfl⟩ := q48
            rw [← hY] at e48
            subst e48
            refine v_icmp_ne (tgt := 246) C dL_sign3_238 (by decide) (fun c49 => ?_) (fun c49 => ?_)
            · have c49 := (nn_ne (a := (((p - 4) - X.length) - 2)) (b := Y.length) (by omega) (by omega)).mp c49
              refine v_iload C 4 rfl dL_sign3_246 ?_
              refine v_iload C 1 rfl dL_sign3_248 ?_
              refine v_iload C 0 rfl dL_sign3_250 ?_
              refine v_isub C dL_sign3_252 (v_eqi (nI_sbk (a := ((p - 4) - X.length)) 2 (by decide) (by omega)) ?_)
              refine v_aload_n C 9 rfl dL_sign3_253 rfl ?_
              refine v_callS (rest := []) C (c_L_sign2 l hl G fa (F (4 * k + 2)) (((p - 4) - X.length) - 2) M F A D T lv s h hw he hF (show F (4 * k + 2) < M by omega) (show lv (F (4 * k + 2)) ≤ 2 by omega) (by rw [← hY]; omega)) S_L_58 rfl rfl (Nat.le_of_ble_eq_true rfl) ⟨Nat.le_of_ble_eq_true rfl, Nat.le_of_ble_eq_true rfl⟩ ⟨Nat.le_of_ble_eq_true rfl, Nat.le_of_ble_eq_true rfl⟩ dL_sign3_254 (fun i51 h51 q51 => ?_)
              obtain ⟨e51, rfl⟩ := q51
              rw [← hY] at e51
              subst e51
              exact v_iret C hQ hr rfl (Nat.le_of_ble_eq_true rfl) (Nat.le_of_ble_eq_true rfl) dL_sign3_257 ⟨by rw [hTX, sjt_4 (by omega) (by omega), hfl, hml], rfl⟩
            · have c49 := (nn_ne_f (a := (((p - 4) - X.length) - 2)) (b := Y.length) (by omega) (by omega)).mp c49
              refine v_bipush (v := 41) C dL_sign3_241 (by decide) ?_
              refine v_goto (tgt := 257) C dL_sign3_243 (by decide) ?_
              exact v_iret C hQ hr rfl (Nat.le_of_ble_eq_true rfl) (Nat.le_of_ble_eq_true rfl) dL_sign3_257 ⟨by rw [hTX, sjt_5 (by omega)]; rfl, rfl⟩
          · have c45 := (nk_ge_f (a := ((p - 4) - X.length)) 2 (by decide) (by omega) (by decide)).mp c45
            refine v_iload_n C 6 rfl dL_sign3_179 rfl ?_
            refine v_iconst (v := 1) C dL_sign3_180 (by decide) ?_
            refine v_icmp_le (tgt := 199) C dL_sign3_181 (by decide) (fun c52 => absurd ((nk_le (a := F (4 * k)) 1 (by decide) (by omega) (by decide)).mp c52) (by omega)) (fun c52 => ?_)
            have c52 := (nk_le_f (a := (F (4 * k))) 1 (by decide) (by omega) (by decide)).mp c52
            refine v_iload C 1 rfl dL_sign3_184 ?_
            refine v_if_ne (tgt := 194) C dL_sign3_186 (by decide) (fun c53 => ?_) (fun c53 => ?_)
            · have c53 := (nk_ne (a := ((p - 4) - X.length)) 0 (by decide) (by omega) (by decide)).mp c53
              refine v_bipush (v := 32) C dL_sign3_194 (by decide) ?_
              refine v_goto (tgt := 221) C dL_sign3_196 (by decide) ?_
              exact v_iret C hQ hr rfl (Nat.le_of_ble_eq_true rfl) (Nat.le_of_ble_eq_true rfl) dL_sign3_221 ⟨by rw [hTX, sjt_3 (by omega) (by omega), hfl, mj_2 (by omega), show p - 4 - X.length = 1 by omega]; rfl, rfl⟩
            · have c53 := (nk_ne_f (a := ((p - 4) - X.length)) 0 (by decide) (by omega) (by decide)).mp c53
              refine v_bipush (v := 44) C dL_sign3_189 (by decide) ?_
              refine v_goto (tgt := 221) C dL_sign3_191 (by decide) ?_
              exact v_iret C hQ hr rfl (Nat.le_of_ble_eq_true rfl) (Nat.le_of_ble_eq_true rfl) dL_sign3_221 ⟨by rw [hTX, sjt_3 (by omega) (by omega), hfl, mj_2 (by omega), show p - 4 - X.length = 0 by omega]; rfl, rfl⟩
        · have c40 := (nn_ge_f (a := p) (b := (4 + X.length)) (by omega) (by omega)).mp c40
          refine v_iload C 3 rfl dL_sign3_131 ?_
          refine v_iload_n C 6 rfl dL_sign3_133 rfl ?_
          refine v_iload C 1 rfl dL_sign3_134 ?_
          refine v_isub C dL_sign3_136 (v_eqi (nI_sbk (a := p) 4 (by decide) (by omega)) ?_)
          refine v_aload_n C 7 rfl dL_sign3_137 rfl ?_
          refine v_callS (rest := []) C (c_L_sign2 l hl G fa (F (4 * k + 1)) (p - 4) M F A D T lv s h hw he hF (show F (4 * k + 1) < M by omega) (show lv (F (4 * k + 1)) ≤ 2 by omega) (by rw [← hX]; omega)) S_L_58 rfl rfl (Nat.le_of_ble_eq_true rfl) ⟨Nat.le_of_ble_eq_true rfl, Nat.le_of_ble_eq_true rfl⟩ ⟨Nat.le_of_ble_eq_true rfl, Nat.le_of_ble_eq_true rfl⟩ dL_sign3_138 (fun i55 h55 q55 => ?_)
          obtain ⟨e55, rfl⟩ := q55
          rw [← hX] at e55
          subst e55
          exact v_iret C hQ hr rfl (Nat.le_of_ble_eq_true rfl) (Nat.le_of_ble_eq_true rfl) dL_sign3_141 ⟨by rw [hTX, sjt_2 (by omega) (by omega), hfl], rfl⟩
      · have c38 := (nk_ge_f (a := p) 4 (by decide) (by omega) (by decide)).mp c38
        refine v_iload_n C 4 rfl dL_sign3_114 rfl ?_
        refine v_iload C 2 rfl dL_sign3_115 ?_
        refine v_iload_n C 6 rfl dL_sign3_117 rfl ?_
        refine v_callS (rest := []) C (c_L_front_j l hl G (F (4 * k)) (F (4 * k + 2)) p h f0 (by omega)) S_L_47 rfl rfl (Nat.le_of_ble_eq_true rfl) ⟨Nat.le_of_ble_eq_true rfl, Nat.le_of_ble_eq_true rfl⟩ ⟨Nat.le_of_ble_eq_true rfl, Nat.le_of_ble_eq_true rfl⟩ dL_sign3_118 (fun i56 h56 q56 => ?_)
        obtain ⟨e56, rfl⟩ := q56; subst e56
        exact v_iret C hQ hr rfl (Nat.le_of_ble_eq_true rfl) (Nat.le_of_ble_eq_true rfl) dL_sign3_121 ⟨by rw [hTX, sjt_1 (by omega)], rfl⟩
    · have c36 := (nk_ge_f (a := (F (4 * k))) 2 (by decide) (by omega) (by decide)).mp c36
      rw [if_pos (show F (4 * k) < 2 by omega)] at hp2
      have hfl : (fjn (F (4 * k))).length = 1 := (fjn_len f0).trans (if_pos (by omega))
      have hml : (mjn (F (4 * k))).length = 3 := (mjn_len f0).trans (if_pos (by omega))
      refine v_iconst (v := 1) C dL_sign3_93 (by decide) ?_
      refine v_goto (tgt := 98) C dL_sign3_94 (by decide) ?_
      refine v_istore C [(6, .int 1), (5, .int (nI (F (4 * k + 2)))), (4, .int (nI (F (4 * k + 1)))), (3, .int (nI (F (4 * k)))), (0, .int (nI k)), (1, .int (nI p)), (2, .ref fa)] rfl (by decide) dL_sign3_98 ?_
      refine v_iload C 2 rfl dL_sign3_100 ?_
      refine v_aload_n C 6 rfl dL_sign3_102 rfl ?_
      refine v_callS (rest := []) C (c_L_length2 l hl G fa (F (4 * k + 1)) M F A D T lv s h hw he hF (show F (4 * k + 1) < M by omega) (show lv (F (4 * k + 1)) ≤ 2 by omega)) S_L_55 rfl rfl (Nat.le_of_ble_eq_true rfl) ⟨Nat.le_of_ble_eq_true rfl, Nat.le_of_ble_eq_true rfl⟩ ⟨Nat.le_of_ble_eq_true rfl, Nat.le_of_ble_eq_true rfl⟩ dL_sign3_103 (fun i57 h57 q57 => ?_)
      obtain ⟨e57, rfl⟩ := q57
      rw [← hX] at e57
      subst e57
      refine v_istore C [(7, .int (nI X.length)), (6, .int 1), (5, .int (nI (F (4 * k + 2)))), (4, .int (nI (F (4 * k + 1)))), (3, .int (nI (F (4 * k)))), (0, .int (nI k)), (1, .int (nI p)), (2, .ref fa)] rfl (by decide) dL_sign3_106 ?_
      refine v_iload_n C 6 rfl dL_sign3_108 rfl ?_
      refine v_iload C 1 rfl dL_sign3_109 ?_
      refine v_icmp_ge (tgt := 122) C dL_sign3_111 (by decide) (fun c58 => ?_) (fun c58 => ?_)
      · have c58 := (nk_ge (a := p) 1 (by decide) (by omega) (by decide)).mp c58
        refine v_iload_n C 6 rfl dL_sign3_122 rfl ?_
        refine v_iload C 1 rfl dL_sign3_123 ?_
        refine v_iload C 0 rfl dL_sign3_125 ?_
        refine v_iadd C dL_sign3_127 (v_eqi (nI_kad X.length 1 (by decide)) ?_)
        refine v_icmp_ge (tgt := 142) C dL_sign3_128 (by decide) (fun c60 => ?_) (fun c60 => ?_)
        · have c60 := (nn_ge (a := p) (b := (1 + X.length)) (by omega) (by omega)).mp c60
          refine v_iload_n C 6 rfl dL_sign3_142 rfl ?_
          refine v_iload C 1 rfl dL_sign3_143 ?_
          refine v_isub C dL_sign3_145 (v_eqi (nI_sbk (a := p) 1 (by decide) (by omega)) ?_)
          refine v_iload C 0 rfl dL_sign3_146 ?_
          refine v_isub C dL_sign3_148 (v_eqi (pk_sub (a := (p - 1)) (b := X.length) (by omega)) ?_)
          refine v_istore C [(8, .int (nI ((p - 1) - X.length))), (7, .int (nI X.length)), (6, .int 1), (5, .int (nI (F (4 * k + 2)))), (4, .int (nI (F (4 * k + 1)))), (3, .int (nI (F (4 * k)))), (0, .int (nI k)), (1, .int (nI p)), (2, .ref fa)] rfl (by decide) dL_sign3_149 ?_
          refine v_iload_n C 5 rfl dL_sign3_151 rfl ?_
          refine v_iconst (v := 2) C dL_sign3_152 (by decide) ?_
          refine v_icmp_ge (tgt := 160) C dL_sign3_153 (by decide) (fun c63 => absurd ((nk_ge (a := F (4 * k)) 2 (by decide) (by omega) (by decide)).mp c63) (by omega)) (fun c63 => ?_)
          have c63 := (nk_ge_f (a := (F (4 * k))) 2 (by decide) (by omega) (by decide)).mp c63
          refine v_iconst (v := 3) C dL_sign3_156 (by decide) ?_
          refine v_goto (tgt := 170) C dL_sign3_157 (by decide) ?_
          refine v_istore C [(9, .int 3), (8, .int (nI ((p - 1) - X.length))), (7, .int (nI X.length)), (6, .int 1), (5, .int (nI (F (4 * k + 2)))), (4, .int (nI (F (4 * k + 1)))), (3, .int (nI (F (4 * k)))), (0, .int (nI k)), (1, .int (nI p)), (2, .ref fa)] rfl (by decide) dL_sign3_170 ?_
          refine v_iload C 1 rfl dL_sign3_172 ?_
          refine v_iload C 0 rfl dL_sign3_174 ?_
          refine v_icmp_ge (tgt := 222) C dL_sign3_176 (by decide) (fun c64 => ?_) (fun c64 => ?_)
          · have c64 := (nk_ge (a := ((p - 1) - X.length)) 3 (by decide) (by omega) (by decide)).mp c64
            refine v_iload_n C 6 rfl dL_sign3_222 rfl ?_
            refine v_iconst (v := 3) C dL_sign3_223 (by decide) ?_
            refine v_icmp_gt (tgt := 241) C dL_sign3_224 (by decide) (fun c65 => absurd ((nk_gt (a := F (4 * k)) 3 (by decide) (by omega) (by decide)).mp c65) (by omega)) (fun c65 => ?_)
            have c65 := (nk_gt_f (a := (F (4 * k))) 3 (by decide) (by omega) (by decide)).mp c65
            refine v_iload C 1 rfl dL_sign3_227 ?_
            refine v_iload C 0 rfl dL_sign3_229 ?_
            refine v_isub C dL_sign3_231 (v_eqi (nI_sbk (a := ((p - 1) - X.length)) 3 (by decide) (by omega)) ?_)
            refine v_iload C 4 rfl dL_sign3_232 ?_
            refine v_aload_n C 9 rfl dL_sign3_234 rfl ?_
            refine v_callS (rest := [.int (nI (((p - 1) - X.length) - 3))]) C (c_L_length2 l hl G fa (F (4 * k + 2)) M F A D T lv s h hw he hF (show F (4 * k + 2) < M by omega) (show lv (F (4 * k + 2)) ≤ 2 by omega)) S_L_55 rfl rfl (Nat.le_of_ble_eq_true rfl) ⟨Nat.le_of_ble_eq_true rfl, Nat.le_of_ble_eq_true rfl⟩ ⟨Nat.le_of_ble_eq_true rfl, Nat.le_of_ble_eq_true rfl⟩ dL_sign3_235 (fun i67 h67 q67 => ?_)
            obtain ⟨e67, rfl⟩ := q67
            rw [← hY] at e67
            subst e67
            refine v_icmp_ne (tgt := 246) C dL_sign3_238 (by decide) (fun c68 => ?_) (fun c68 => ?_)
            · have c68 := (nn_ne (a := (((p - 1) - X.length) - 3)) (b := Y.length) (by omega) (by omega)).mp c68
              refine v_iload C 4 rfl dL_sign3_246 ?_
              refine v_iload C 1 rfl dL_sign3_248 ?_
              refine v_iload C 0 rfl dL_sign3_250 ?_
              refine v_isub C dL_sign3_252 (v_eqi (nI_sbk (a := ((p - 1) - X.length)) 3 (by decide) (by omega)) ?_)
              refine v_aload_n C 9 rfl dL_sign3_253 rfl ?_
              refine v_callS (rest := []) C (c_L_sign2 l hl G fa (F (4 * k + 2)) (((p - 1) - X.length) - 3) M F A D T lv s h hw he hF (show F (4 * k + 2) < M by omega) (show lv (F (4 * k + 2)) ≤ 2 by omega) (by rw [← hY]; omega)) S_L_58 rfl rfl (Nat.le_of_ble_eq_true rfl) ⟨Nat.le_of_ble_eq_true rfl, Nat.le_of_ble_eq_true rfl⟩ ⟨Nat.le_of_ble_eq_true rfl, Nat.le_of_ble_eq_true rfl⟩ dL_sign3_254 (fun i70 h70 q70 => ?_)
              obtain ⟨e70, rfl⟩ := q70
              rw [← hY] at e70
              subst e70
              exact v_iret C hQ hr rfl (Nat.le_of_ble_eq_true rfl) (Nat.le_of_ble_eq_true rfl) dL_sign3_257 ⟨by rw [hTX, sjt_4 (by omega) (by omega), hfl, hml], rfl⟩
            · have c68 := (nn_ne_f (a := (((p - 1) - X.length) - 3)) (b := Y.length) (by omega) (by omega)).mp c68
              refine v_bipush (v := 41) C dL_sign3_241 (by decide) ?_
              refine v_goto (tgt := 257) C dL_sign3_243 (by decide) ?_
              exact v_iret C hQ hr rfl (Nat.le_of_ble_eq_true rfl) (Nat.le_of_ble_eq_true rfl) dL_sign3_257 ⟨by rw [hTX, sjt_5 (by omega)]; rfl, rfl⟩
          · have c64 := (nk_ge_f (a := ((p - 1) - X.length)) 3 (by decide) (by omega) (by decide)).mp c64
            refine v_iload_n C 6 rfl dL_sign3_179 rfl ?_
            refine v_iconst (v := 1) C dL_sign3_180 (by decide) ?_
            refine v_icmp_le (tgt := 199) C dL_sign3_181 (by decide) (fun c71 => ?_) (fun c71 => absurd ((nk_le_f (a := F (4 * k)) 1 (by decide) (by omega) (by decide)).mp c71) (by omega))
            have c71 := (nk_le (a := (F (4 * k))) 1 (by decide) (by omega) (by decide)).mp c71
            refine v_iload C 1 rfl dL_sign3_199 ?_
            refine v_iconst (v := 1) C dL_sign3_201 (by decide) ?_
            refine v_icmp_eq (tgt := 210) C dL_sign3_202 (by decide) (fun c72 => ?_) (fun c72 => ?_)
            · have c72 := (nk_eq (a := ((p - 1) - X.length)) 1 (by decide) (by omega) (by decide)).mp c72
              refine v_iload_n C 6 rfl dL_sign3_210 rfl ?_
              refine v_if_ne (tgt := 219) C dL_sign3_211 (by decide) (fun c73 => ?_) (fun c73 => ?_)
              · have c73 := (nk_ne (a := (F (4 * k))) 0 (by decide) (by omega) (by decide)).mp c73
                refine v_bipush (v := 45) C dL_sign3_219 (by decide) ?_
                exact v_iret C hQ hr rfl (Nat.le_of_ble_eq_true rfl) (Nat.le_of_ble_eq_true rfl) dL_sign3_221 ⟨by rw [hTX, sjt_3 (by omega) (by omega), hfl, show p - 1 - X.length = 1 by omega, show F (4 * k) = 1 by omega]; rfl, rfl⟩
              · have c73 := (nk_ne_f (a := (F (4 * k))) 0 (by decide) (by omega) (by decide)).mp c73
                refine v_bipush (v := 43) C dL_sign3_214 (by decide) ?_
                refine v_goto (tgt := 221) C dL_sign3_216 (by decide) ?_
                exact v_iret C hQ hr rfl (Nat.le_of_ble_eq_true rfl) (Nat.le_of_ble_eq_true rfl) dL_sign3_221 ⟨by rw [hTX, sjt_3 (by omega) (by omega), hfl, show p - 1 - X.length = 1 by omega, show F (4 * k) = 0 by omega]; rfl, rfl⟩
            · have c72 := (nk_eq_f (a := ((p - 1) - X.length)) 1 (by decide) (by omega) (by decide)).mp c72
              refine v_bipush (v := 32) C dL_sign3_205 (by decide) ?_
              refine v_goto (tgt := 221) C dL_sign3_207 (by decide) ?_
              exact v_iret C hQ hr rfl (Nat.le_of_ble_eq_true rfl) (Nat.le_of_ble_eq_true rfl) dL_sign3_221 ⟨by rw [hTX, sjt_3 (by omega) (by omega), hfl, mj_b (by omega) (by omega) (by omega)]; rfl, rfl⟩
        · have c60 := (nn_ge_f (a := p) (b := (1 + X.length)) (by omega) (by omega)).mp c60
          refine v_iload C 3 rfl dL_sign3_131 ?_
          refine v_iload_n C 6 rfl dL_sign3_133 rfl ?_
          refine v_iload C 1 rfl dL_sign3_134 ?_
          refine v_isub C dL_sign3_136 (v_eqi (nI_sbk (a := p) 1 (by decide) (by omega)) ?_)
          refine v_aload_n C 7 rfl dL_sign3_137 rfl ?_
          refine v_callS (rest := []) C (c_L_sign2 l hl G fa (F (4 * k + 1)) (p - 1) M F A D T lv s h hw he hF (show F (4 * k + 1) < M by omega) (show lv (F (4 * k + 1)) ≤ 2 by omega) (by rw [← hX]; omega)) S_L_58 rfl rfl (Nat.le_of_ble_eq_true rfl) ⟨Nat.le_of_ble_eq_true rfl, Nat.le_of_ble_eq_true rfl⟩ ⟨Nat.le_of_ble_eq_true rfl, Nat.le_of_ble_eq_true rfl⟩ dL_sign3_138 (fun i75 h75 q75 => ?_)
          obtain ⟨e75, rfl⟩ := q75
          rw [← hX] at e75
          subst e75
          exact v_iret C hQ hr rfl (Nat.le_of_ble_eq_true rfl) (Nat.le_of_ble_eq_true rfl) dL_sign3_141 ⟨by rw [hTX, sjt_2 (by omega) (by omega), hfl], rfl⟩
      · have c58 := (nk_ge_f (a := p) 1 (by decide) (by omega) (by decide)).mp c58
        refine v_iload_n C 4 rfl dL_sign3_114 rfl ?_
        refine v_iload C 2 rfl dL_sign3_115 ?_
        refine v_iload_n C 6 rfl dL_sign3_117 rfl ?_
        refine v_callS (rest := []) C (c_L_front_j l hl G (F (4 * k)) (F (4 * k + 2)) p h f0 (by omega)) S_L_47 rfl rfl (Nat.le_of_ble_eq_true rfl) ⟨Nat.le_of_ble_eq_true rfl, Nat.le_of_ble_eq_true rfl⟩ ⟨Nat.le_of_ble_eq_true rfl, Nat.le_of_ble_eq_true rfl⟩ dL_sign3_118 (fun i76 h76 q76 => ?_)
        obtain ⟨e76, rfl⟩ := q76; subst e76
        exact v_iret C hQ hr rfl (Nat.le_of_ble_eq_true rfl) (Nat.le_of_ble_eq_true rfl) dL_sign3_121 ⟨by rw [hTX, sjt_1 (by omega)], rfl⟩
  · obtain ⟨X, hX⟩ : ∃ X, X = txtOf (T (F (4 * k + 1))) := ⟨_, rfl⟩
    have xl : X.length ≤ 441 := by rw [hX]; exact (he.w6 hw (k := F (4 * k + 1)) (by omega)).txl6 (Nat.le_refl _)
    have hTX : txtOf (T k) = dgl (F (4 * k + 2)) ++ [37, 32, 111, 102, 32] ++ X := by rw [fT, txt_share (he.w6 hw (k := F (4 * k + 1)) (by omega)), hX]
    have d3 := dg_le3 f2
    have hp2 : p < sb_dg (F (4 * k + 2)) + 5 + X.length := by rw [hTX] at hp; simp only [List.length_append, dgl_len, List.length_cons, List.length_nil] at hp; omega
    refine v_aload_n C 2 rfl dL_sign3_0 rfl ?_
    refine v_iconst (v := 4) C dL_sign3_1 (by decide) ?_
    refine v_iload_n C 0 rfl dL_sign3_2 rfl ?_
    refine v_imul C dL_sign3_3 (v_eqi (nI_kml k 4 (by decide)) ?_)
    refine v_iald C hF (vpin (show 4 * k < 60 by omega) (by decide)) dL_sign3_4 (v_eqi (y := nI 7) ((congrArg (fun j => nI (F j)) (nI_clamp (show 4 * k < 2 ^ 31 by omega))).trans (congrArg nI f0)) ?_)
    refine v_istore_n C [(3, .int (nI 7)), (0, .int (nI k)), (1, .int (nI p)), (2, .ref fa)] rfl (by decide) dL_sign3_5 rfl ?_
    refine v_aload_n C 3 rfl dL_sign3_6 rfl ?_
    refine v_iconst (v := 4) C dL_sign3_7 (by decide) ?_
    refine v_iload_n C 1 rfl dL_sign3_8 rfl ?_
    refine v_imul C dL_sign3_9 (v_eqi (nI_kml k 4 (by decide)) ?_)
    refine v_iconst (v := 1) C dL_sign3_10 (by decide) ?_
    refine v_iadd C dL_sign3_11 (v_eqi (nI_adk (4 * k) 1 (by decide)) ?_)
    refine v_iald C hF (vpin (show 4 * k + 1 < 60 by omega) (by decide)) dL_sign3_12 (v_eqi (y := nI (F (4 * k + 1))) (congrArg (fun j => nI (F j)) (nI_clamp (show 4 * k + 1 < 2 ^ 31 by omega))) ?_)
    refine v_istore C [(4, .int (nI (F (4 * k + 1)))), (3, .int (nI 7)), (0, .int (nI k)), (1, .int (nI p)), (2, .ref fa)] rfl (by decide) dL_sign3_13 ?_
    refine v_aload_n C 4 rfl dL_sign3_15 rfl ?_
    refine v_iconst (v := 4) C dL_sign3_16 (by decide) ?_
    refine v_iload_n C 2 rfl dL_sign3_17 rfl ?_
    refine v_imul C dL_sign3_18 (v_eqi (nI_kml k 4 (by decide)) ?_)
    refine v_iconst (v := 2) C dL_sign3_19 (by decide) ?_
    refine v_iadd C dL_sign3_20 (v_eqi (nI_adk (4 * k) 2 (by decide)) ?_)
    refine v_iald C hF (vpin (show 4 * k + 2 < 60 by omega) (by decide)) dL_sign3_21 (v_eqi (y := nI (F (4 * k + 2))) (congrArg (fun j => nI (F j)) (nI_clamp (show 4 * k + 2 < 2 ^ 31 by omega))) ?_)
    refine v_istore C [(5, .int (nI (F (4 * k + 2)))), (4, .int (nI (F (4 * k + 1)))), (3, .int (nI 7)), (0, .int (nI k)), (1, .int (nI p)), (2, .ref fa)] rfl (by decide) dL_sign3_22 ?_
    refine v_iload_n C 2 rfl dL_sign3_24 rfl ?_
    refine v_iconst (v := 4) C dL_sign3_25 (by decide) ?_
    refine v_icmp_eq (tgt := 34) C dL_sign3_26 (by decide) (fun c82 => absurd c82 (by decide)) (fun c82 => ?_)
    refine v_iload_n C 2 rfl dL_sign3_29 rfl ?_
    refine v_iconst (v := 5) C dL_sign3_30 (by decide) ?_
    refine v_icmp_ne (tgt := 41) C dL_sign3_31 (by decide) (fun c83 => ?_) (fun c83 => absurd c83 (by decide))
    refine v_iload_n C 2 rfl dL_sign3_41 rfl ?_
    refine v_bipush (v := 6) C dL_sign3_42 (by decide) ?_
    refine v_icmp_ne (tgt := 62) C dL_sign3_44 (by decide) (fun c84 => ?_) (fun c84 => absurd c84 (by decide))
    refine v_iload_n C 2 rfl dL_sign3_62 rfl ?_
    refine v_bipush (v := 7) C dL_sign3_63 (by decide) ?_
    refine v_icmp_ne (tgt := 78) C dL_sign3_65 (by decide) (fun c85 => absurd c85 (by decide)) (fun c85 => ?_)
    refine v_iload C 0 rfl dL_sign3_68 ?_
    refine v_callS (rest := []) C (c_L_digits l hl G (F (4 * k + 2)) h (by omega)) S_L_12 rfl rfl (Nat.le_of_ble_eq_true rfl) ⟨Nat.le_of_ble_eq_true rfl, Nat.le_of_ble_eq_true rfl⟩ ⟨Nat.le_of_ble_eq_true rfl, Nat.le_of_ble_eq_true rfl⟩ dL_sign3_70 (fun i86 h86 q86 => ?_)
    obtain ⟨e86, rfl⟩ := q86; subst e86
    refine v_iconst (v := 5) C dL_sign3_73 (by decide) ?_
    refine v_iadd C dL_sign3_74 (v_eqi (nI_adk (sb_dg (F (4 * k + 2))) 5 (by decide)) ?_)
    refine v_goto (tgt := 98) C dL_sign3_75 (by decide) ?_
    refine v_istore C [(6, .int (nI ((sb_dg (F (4 * k + 2))) + 5))), (5, .int (nI (F (4 * k + 2)))), (4, .int (nI (F (4 * k + 1)))), (3, .int (nI 7)), (0, .int (nI k)), (1, .int (nI p)), (2, .ref fa)] rfl (by decide) dL_sign3_98 ?_
    refine v_iload C 2 rfl dL_sign3_100 ?_
    refine v_aload_n C 6 rfl dL_sign3_102 rfl ?_
    refine v_callS (rest := []) C (c_L_length2 l hl G fa (F (4 * k + 1)) M F A D T lv s h hw he hF (show F (4 * k + 1) < M by omega) (show lv (F (4 * k + 1)) ≤ 2 by omega)) S_L_55 rfl rfl (Nat.le_of_ble_eq_true rfl) ⟨Nat.le_of_ble_eq_true rfl, Nat.le_of_ble_eq_true rfl⟩ ⟨Nat.le_of_ble_eq_true rfl, Nat.le_of_ble_eq_true rfl⟩ dL_sign3_103 (fun i88 h88 q88 => ?_)
    obtain ⟨e88, rfl⟩ := q88
    rw [← hX] at e88
    subst e88
    refine v_istore C [(7, .int (nI X.length)), (6, .int (nI ((sb_dg (F (4 * k + 2))) + 5))), (5, .int (nI (F (4 * k + 2)))), (4, .int (nI (F (4 * k + 1)))), (3, .int (nI 7)), (0, .int (nI k)), (1, .int (nI p)), (2, .ref fa)] rfl (by decide) dL_sign3_106 ?_
    refine v_iload_n C 6 rfl dL_sign3_108 rfl ?_
    refine v_iload C 1 rfl dL_sign3_109 ?_
    refine v_icmp_ge (tgt := 122) C dL_sign3_111 (by decide) (fun c89 => ?_) (fun c89 => ?_)
    · have c89 := (nn_ge (a := p) (b := ((sb_dg (F (4 * k + 2))) + 5)) (by omega) (by omega)).mp c89
      refine v_iload_n C 6 rfl dL_sign3_122 rfl ?_
      refine v_iload C 1 rfl dL_sign3_123 ?_
      refine v_iload C 0 rfl dL_sign3_125 ?_
      refine v_iadd C dL_sign3_127 (v_eqi (nI_add ((sb_dg (F (4 * k + 2))) + 5) X.length) ?_)
      refine v_icmp_ge (tgt := 142) C dL_sign3_128 (by decide) (fun c91 => absurd ((nn_ge (a := p) (b := ((sb_dg (F (4 * k + 2))) + 5) + X.length) (by omega) (by omega)).mp c91) (by omega)) (fun c91 => ?_)
      have c91 := (nn_ge_f (a := p) (b := (((sb_dg (F (4 * k + 2))) + 5) + X.length)) (by omega) (by omega)).mp c91
      refine v_iload C 3 rfl dL_sign3_131 ?_
      refine v_iload_n C 6 rfl dL_sign3_133 rfl ?_
      refine v_iload C 1 rfl dL_sign3_134 ?_
      refine v_isub C dL_sign3_136 (v_eqi (pk_sub (a := p) (b := ((sb_dg (F (4 * k + 2))) + 5)) (by omega)) ?_)
      refine v_aload_n C 7 rfl dL_sign3_137 rfl ?_
      refine v_callS (rest := []) C (c_L_sign2 l hl G fa (F (4 * k + 1)) (p - ((sb_dg (F (4 * k + 2))) + 5)) M F A D T lv s h hw he hF (show F (4 * k + 1) < M by omega) (show lv (F (4 * k + 1)) ≤ 2 by omega) (by rw [← hX]; omega)) S_L_58 rfl rfl (Nat.le_of_ble_eq_true rfl) ⟨Nat.le_of_ble_eq_true rfl, Nat.le_of_ble_eq_true rfl⟩ ⟨Nat.le_of_ble_eq_true rfl, Nat.le_of_ble_eq_true rfl⟩ dL_sign3_138 (fun i93 h93 q93 => ?_)
      obtain ⟨e93, rfl⟩ := q93
      rw [← hX] at e93
      subst e93
      exact v_iret C hQ hr rfl (Nat.le_of_ble_eq_true rfl) (Nat.le_of_ble_eq_true rfl) dL_sign3_141 ⟨by rw [hTX, gd_r (by simp only [List.length_append, dgl_len, List.length_cons, List.length_nil]; omega)]; simp only [List.length_append, dgl_len, List.length_cons, List.length_nil], rfl⟩
    · have c89 := (nn_ge_f (a := p) (b := ((sb_dg (F (4 * k + 2))) + 5)) (by omega) (by omega)).mp c89
      refine v_iload_n C 4 rfl dL_sign3_114 rfl ?_
      refine v_iload C 2 rfl dL_sign3_115 ?_
      refine v_iload_n C 6 rfl dL_sign3_117 rfl ?_
      refine v_callS (rest := []) C (c_L_front_7 l hl G (F (4 * k + 2)) p h (by omega) (by omega)) S_L_47 rfl rfl (Nat.le_of_ble_eq_true rfl) ⟨Nat.le_of_ble_eq_true rfl, Nat.le_of_ble_eq_true rfl⟩ ⟨Nat.le_of_ble_eq_true rfl, Nat.le_of_ble_eq_true rfl⟩ dL_sign3_118 (fun i94 h94 q94 => ?_)
      obtain ⟨e94, rfl⟩ := q94; subst e94
      exact v_iret C hQ hr rfl (Nat.le_of_ble_eq_true rfl) (Nat.le_of_ble_eq_true rfl) dL_sign3_121 ⟨congrArg nI ((gd_l (b := X) (show p < (dgl (F (4 * k + 2)) ++ [37, 32, 111, 102, 32]).length by simp only [List.length_append, dgl_len, List.length_cons, List.length_nil]; omega)).symm.trans (congrArg (fun z => z.getD p 0) hTX.symm)), rfl⟩
  · obtain ⟨X, hX⟩ : ∃ X, X = txtOf (T (F (4 * k + 1))) := ⟨_, rfl⟩
    have xl : X.length ≤ 441 := by rw [hX]; exact (he.w6 hw (k := F (4 * k + 1)) (by omega)).txl6 (Nat.le_refl _)
    have hTX : txtOf (T k) = [121, 101, 97, 114, 40] ++ X ++ [41] := by rw [fT, txt_year (he.w6 hw (k := F (4 * k + 1)) (by omega)), hX]
    have hp2 : p < 5 + X.length + 1 := by rw [hTX] at hp; simp only [List.length_append, List.length_cons, List.length_nil] at hp; omega
    refine v_aload_n C 2 rfl dL_sign3_0 rfl ?_
    refine v_iconst (v := 4) C dL_sign3_1 (by decide) ?_
    refine v_iload_n C 0 rfl dL_sign3_2 rfl ?_
    refine v_imul C dL_sign3_3 (v_eqi (nI_kml k 4 (by decide)) ?_)
    refine v_iald C hF (vpin (show 4 * k < 60 by omega) (by decide)) dL_sign3_4 (v_eqi (y := nI 8) ((congrArg (fun j => nI (F j)) (nI_clamp (show 4 * k < 2 ^ 31 by omega))).trans (congrArg nI f0)) ?_)
    refine v_istore_n C [(3, .int (nI 8)), (0, .int (nI k)), (1, .int (nI p)), (2, .ref fa)] rfl (by decide) dL_sign3_5 rfl ?_
    refine v_aload_n C 3 rfl dL_sign3_6 rfl ?_
    refine v_iconst (v := 4) C dL_sign3_7 (by decide) ?_
    refine v_iload_n C 1 rfl dL_sign3_8 rfl ?_
    refine v_imul C dL_sign3_9 (v_eqi (nI_kml k 4 (by decide)) ?_)
    refine v_iconst (v := 1) C dL_sign3_10 (by decide) ?_
    refine v_iadd C dL_sign3_11 (v_eqi (nI_adk (4 * k) 1 (by decide)) ?_)
    refine v_iald C hF (vpin (show 4 * k + 1 < 60 by omega) (by decide)) dL_sign3_12 (v_eqi (y := nI (F (4 * k + 1))) (congrArg (fun j => nI (F j)) (nI_clamp (show 4 * k + 1 < 2 ^ 31 by omega))) ?_)
    refine v_istore C [(4, .int (nI (F (4 * k + 1)))), (3, .int (nI 8)), (0, .int (nI k)), (1, .int (nI p)), (2, .ref fa)] rfl (by decide) dL_sign3_13 ?_
    refine v_aload_n C 4 rfl dL_sign3_15 rfl ?_
    refine v_iconst (v := 4) C dL_sign3_16 (by decide) ?_
    refine v_iload_n C 2 rfl dL_sign3_17 rfl ?_
    refine v_imul C dL_sign3_18 (v_eqi (nI_kml k 4 (by decide)) ?_)
    refine v_iconst (v := 2) C dL_sign3_19 (by decide) ?_
    refine v_iadd C dL_sign3_20 (v_eqi (nI_adk (4 * k) 2 (by decide)) ?_)
    refine v_iald C hF (vpin (show 4 * k + 2 < 60 by omega) (by decide)) dL_sign3_21 (v_eqi (y := nI (F (4 * k + 2))) (congrArg (fun j => nI (F j)) (nI_clamp (show 4 * k + 2 < 2 ^ 31 by omega))) ?_)
    refine v_istore C [(5, .int (nI (F (4 * k + 2)))), (4, .int (nI (F (4 * k + 1)))), (3, .int (nI 8)), (0, .int (nI k)), (1, .int (nI p)), (2, .ref fa)] rfl (by decide) dL_sign3_22 ?_
    refine v_iload_n C 2 rfl dL_sign3_24 rfl ?_
    refine v_iconst (v := 4) C dL_sign3_25 (by decide) ?_
    refine v_icmp_eq (tgt := 34) C dL_sign3_26 (by decide) (fun c100 => absurd c100 (by decide)) (fun c100 => ?_)
    refine v_iload_n C 2 rfl dL_sign3_29 rfl ?_
    refine v_iconst (v := 5) C dL_sign3_30 (by decide) ?_
    refine v_icmp_ne (tgt := 41) C dL_sign3_31 (by decide) (fun c101 => ?_) (fun c101 => absurd c101 (by decide))
    refine v_iload_n C 2 rfl dL_sign3_41 rfl ?_
    refine v_bipush (v := 6) C dL_sign3_42 (by decide) ?_
    refine v_icmp_ne (tgt := 62) C dL_sign3_44 (by decide) (fun c102 => ?_) (fun c102 => absurd c102 (by decide))
    refine v_iload_n C 2 rfl dL_sign3_62 rfl ?_
    refine v_bipush (v := 7) C dL_sign3_63 (by decide) ?_
    refine v_icmp_ne (tgt := 78) C dL_sign3_65 (by decide) (fun c103 => ?_) (fun c103 => absurd c103 (by decide))
    refine v_iload_n C 2 rfl dL_sign3_78 rfl ?_
    refine v_bipush (v := 8) C dL_sign3_79 (by decide) ?_
    refine v_icmp_ne (tgt := 88) C dL_sign3_81 (by decide) (fun c104 => absurd c104 (by decide)) (fun c104 => ?_)
    refine v_iconst (v := 5) C dL_sign3_84 (by decide) ?_
    refine v_goto (tgt := 98) C dL_sign3_85 (by decide) ?_
    refine v_istore C [(6, .int 5), (5, .int (nI (F (4 * k + 2)))), (4, .int (nI (F (4 * k + 1)))), (3, .int (nI 8)), (0, .int (nI k)), (1, .int (nI p)), (2, .ref fa)] rfl (by decide) dL_sign3_98 ?_
    refine v_iload C 2 rfl dL_sign3_100 ?_
    refine v_aload_n C 6 rfl dL_sign3_102 rfl ?_
    refine v_callS (rest := []) C (c_L_length2 l hl G fa (F (4 * k + 1)) M F A D T lv s h hw he hF (show F (4 * k + 1) < M by omega) (show lv (F (4 * k + 1)) ≤ 2 by omega)) S_L_55 rfl rfl (Nat.le_of_ble_eq_true rfl) ⟨Nat.le_of_ble_eq_true rfl, Nat.le_of_ble_eq_true rfl⟩ ⟨Nat.le_of_ble_eq_true rfl, Nat.le_of_ble_eq_true rfl⟩ dL_sign3_103 (fun i105 h105 q105 => ?_)
    obtain ⟨e105, rfl⟩ := q105
    rw [← hX] at e105
    subst e105
    refine v_istore C [(7, .int (nI X.length)), (6, .int 5), (5, .int (nI (F (4 * k + 2)))), (4, .int (nI (F (4 * k + 1)))), (3, .int (nI 8)), (0, .int (nI k)), (1, .int (nI p)), (2, .ref fa)] rfl (by decide) dL_sign3_106 ?_
    refine v_iload_n C 6 rfl dL_sign3_108 rfl ?_
    refine v_iload C 1 rfl dL_sign3_109 ?_
    refine v_icmp_ge (tgt := 122) C dL_sign3_111 (by decide) (fun c106 => ?_) (fun c106 => ?_)
    · have c106 := (nk_ge (a := p) 5 (by decide) (by omega) (by decide)).mp c106
      refine v_iload_n C 6 rfl dL_sign3_122 rfl ?_
      refine v_iload C 1 rfl dL_sign3_123 ?_
      refine v_iload C 0 rfl dL_sign3_125 ?_
      refine v_iadd C dL_sign3_127 (v_eqi (nI_kad X.length 5 (by decide)) ?_)
      refine v_icmp_ge (tgt := 142) C dL_sign3_128 (by decide) (fun c108 => ?_) (fun c108 => ?_)
      · have c108 := (nn_ge (a := p) (b := (5 + X.length)) (by omega) (by omega)).mp c108
        refine v_iload_n C 6 rfl dL_sign3_142 rfl ?_
        refine v_iload C 1 rfl dL_sign3_143 ?_
        refine v_isub C dL_sign3_145 (v_eqi (nI_sbk (a := p) 5 (by decide) (by omega)) ?_)
        refine v_iload C 0 rfl dL_sign3_146 ?_
        refine v_isub C dL_sign3_148 (v_eqi (pk_sub (a := (p - 5)) (b := X.length) (by omega)) ?_)
        refine v_istore C [(8, .int (nI ((p - 5) - X.length))), (7, .int (nI X.length)), (6, .int 5), (5, .int (nI (F (4 * k + 2)))), (4, .int (nI (F (4 * k + 1)))), (3, .int (nI 8)), (0, .int (nI k)), (1, .int (nI p)), (2, .ref fa)] rfl (by decide) dL_sign3_149 ?_
        refine v_iload_n C 5 rfl dL_sign3_151 rfl ?_
        refine v_iconst (v := 2) C dL_sign3_152 (by decide) ?_
        refine v_icmp_ge (tgt := 160) C dL_sign3_153 (by decide) (fun c111 => ?_) (fun c111 => absurd c111 (by decide))
        refine v_iload_n C 5 rfl dL_sign3_160 rfl ?_
        refine v_iconst (v := 4) C dL_sign3_161 (by decide) ?_
        refine v_icmp_ge (tgt := 169) C dL_sign3_162 (by decide) (fun c112 => ?_) (fun c112 => absurd c112 (by decide))
        refine v_iconst (v := 0) C dL_sign3_169 (by decide) ?_
        refine v_istore C [(9, .int 0), (8, .int (nI ((p - 5) - X.length))), (7, .int (nI X.length)), (6, .int 5), (5, .int (nI (F (4 * k + 2)))), (4, .int (nI (F (4 * k + 1)))), (3, .int (nI 8)), (0, .int (nI k)), (1, .int (nI p)), (2, .ref fa)] rfl (by decide) dL_sign3_170 ?_
        refine v_iload C 1 rfl dL_sign3_172 ?_
        refine v_iload C 0 rfl dL_sign3_174 ?_
        refine v_icmp_ge (tgt := 222) C dL_sign3_176 (by decide) (fun c113 => ?_) (fun c113 => absurd ((nk_ge_f (a := (p - 5) - X.length) 0 (by decide) (by omega) (by decide)).mp c113) (by omega))
        have c113 := (nk_ge (a := ((p - 5) - X.length)) 0 (by decide) (by omega) (by decide)).mp c113
        refine v_iload_n C 6 rfl dL_sign3_222 rfl ?_
        refine v_iconst (v := 3) C dL_sign3_223 (by decide) ?_
        refine v_icmp_gt (tgt := 241) C dL_sign3_224 (by decide) (fun c114 => ?_) (fun c114 => absurd c114 (by decide))
        refine v_bipush (v := 41) C dL_sign3_241 (by decide) ?_
        refine v_goto (tgt := 257) C dL_sign3_243 (by decide) ?_
        exact v_iret C hQ hr rfl (Nat.le_of_ble_eq_true rfl) (Nat.le_of_ble_eq_true rfl) dL_sign3_257 ⟨by rw [hTX, List.append_assoc, gd_r (show 5 ≤ p by omega)]; show _ = nI ((X ++ [41]).getD (p - 5) 0); rw [gd_r (show X.length ≤ p - 5 by omega)]; rw [show p - 5 - X.length = 0 by omega]; rfl, rfl⟩
      · have c108 := (nn_ge_f (a := p) (b := (5 + X.length)) (by omega) (by omega)).mp c108
        refine v_iload C 3 rfl dL_sign3_131 ?_
        refine v_iload_n C 6 rfl dL_sign3_133 rfl ?_
        refine v_iload C 1 rfl dL_sign3_134 ?_
        refine v_isub C dL_sign3_136 (v_eqi (nI_sbk (a := p) 5 (by decide) (by omega)) ?_)
        refine v_aload_n C 7 rfl dL_sign3_137 rfl ?_
        refine v_callS (rest := []) C (c_L_sign2 l hl G fa (F (4 * k + 1)) (p - 5) M F A D T lv s h hw he hF (show F (4 * k + 1) < M by omega) (show lv (F (4 * k + 1)) ≤ 2 by omega) (by rw [← hX]; omega)) S_L_58 rfl rfl (Nat.le_of_ble_eq_true rfl) ⟨Nat.le_of_ble_eq_true rfl, Nat.le_of_ble_eq_true rfl⟩ ⟨Nat.le_of_ble_eq_true rfl, Nat.le_of_ble_eq_true rfl⟩ dL_sign3_138 (fun i116 h116 q116 => ?_)
        obtain ⟨e116, rfl⟩ := q116
        rw [← hX] at e116
        subst e116
        exact v_iret C hQ hr rfl (Nat.le_of_ble_eq_true rfl) (Nat.le_of_ble_eq_true rfl) dL_sign3_141 ⟨by rw [hTX, List.append_assoc, gd_r (show 5 ≤ p by omega)]; show _ = nI ((X ++ [41]).getD (p - 5) 0); rw [gd_l (show p - 5 < X.length by omega)], rfl⟩
    · have c106 := (nk_ge_f (a := p) 5 (by decide) (by omega) (by decide)).mp c106
      refine v_iload_n C 4 rfl dL_sign3_114 rfl ?_
      refine v_iload C 2 rfl dL_sign3_115 ?_
      refine v_iload_n C 6 rfl dL_sign3_117 rfl ?_
      refine v_callS (rest := []) C (c_L_front_8 l hl G (F (4 * k + 2)) p h (by omega)) S_L_47 rfl rfl (Nat.le_of_ble_eq_true rfl) ⟨Nat.le_of_ble_eq_true rfl, Nat.le_of_ble_eq_true rfl⟩ ⟨Nat.le_of_ble_eq_true rfl, Nat.le_of_ble_eq_true rfl⟩ dL_sign3_118 (fun i117 h117 q117 => ?_)
      obtain ⟨e117, rfl⟩ := q117; subst e117
      exact v_iret C hQ hr rfl (Nat.le_of_ble_eq_true rfl) (Nat.le_of_ble_eq_true rfl) dL_sign3_121 ⟨by rw [hTX, List.append_assoc, gd_l (show p < 5 by omega)], rfl⟩
set_option maxHeartbeats 4000000 in
set_option maxRecDepth 100000 in
theorem c_L_sign4 (l : Launch) (hl : l.stackTraces = false) (G : zG) (fa k p M : Nat) (F : Nat → Nat) (A D : Nat → Int32) (T : Nat → List Tok) (lv : Nat → Nat) (s : ZS) (h : zH) (hw : WFs s) (he : EV s F A D T lv M) (hF : iC G h fa 60 (fN F)) (hk : k < M) (hv : lv k ≤ 4) (hp : p < (txtOf (T k)).length) : zMet eI l yL_sign4 cL_sign4 10 (some .int) 17 0 0 G [.int (nI k), .int (nI p), .ref fa] h (fun r h2 => r = nI ((txtOf (T k)).getD p 0) ∧ h = h2) := by
  refine con_of hl RL rfl (by decide +kernel) [(0, .int (nI k)), (1, .int (nI p)), (2, .ref fa)] rfl (Nat.le_of_ble_eq_true rfl) ?_
  intro zp ze zs zm zargs zbelow zmeth zc C hr hin Q hQ
  have hp441 : p < 441 := Nat.lt_of_lt_of_le hp ((he.w6 hw hk).txl6 (Nat.le_refl _))
  have hM := he.1
  have hN6 := he.2.1
  obtain ⟨l1, l6, l3, hFE⟩ := he.2.2.1 k hk
  rcases hFE with ⟨f0, f1, fT, fl⟩ | ⟨f0, f1, fT, fl⟩ | ⟨f0, f1, fT, fl⟩ | ⟨f0, f1, f2, fT, fl⟩ | ⟨f0, f1, f2, fT, fl⟩ | ⟨f0, f1, fT, fl⟩
  · have hTX := (congrArg txtOf fT).trans (tx4 f1)
    have hp2 : p < 2 := by rw [hTX] at hp; exact hp
    refine v_aload_n C 2 rfl dL_sign4_0 rfl ?_
    refine v_iconst (v := 4) C dL_sign4_1 (by decide) ?_
    refine v_iload_n C 0 rfl dL_sign4_2 rfl ?_
    refine v_imul C dL_sign4_3 (v_eqi (nI_kml k 4 (by decide)) ?_)
    refine v_iald C hF (vpin (show 4 * k < 60 by omega) (by decide)) dL_sign4_4 (v_eqi (y := nI 4) ((congrArg (fun j => nI (F j)) (nI_clamp (show 4 * k < 2 ^ 31 by omega))).trans (congrArg nI f0)) ?_)
    refine v_istore_n C [(3, .int (nI 4)), (0, .int (nI k)), (1, .int (nI p)), (2, .ref fa)] rfl (by decide) dL_sign4_5 rfl ?_
    refine v_aload_n C 3 rfl dL_sign4_6 rfl ?_
    refine v_iconst (v := 4) C dL_sign4_7 (by decide) ?_
    refine v_iload_n C 1 rfl dL_sign4_8 rfl ?_
    refine v_imul C dL_sign4_9 (v_eqi (nI_kml k 4 (by decide)) ?_)
    refine v_iconst (v := 1) C dL_sign4_10 (by decide) ?_
    refine v_iadd C dL_sign4_11 (v_eqi (nI_adk (4 * k) 1 (by decide)) ?_)
    refine v_iald C hF (vpin (show 4 * k + 1 < 60 by omega) (by decide)) dL_sign4_12 (v_eqi (y := nI (F (4 * k + 1))) (congrArg (fun j => nI (F j)) (nI_clamp (show 4 * k + 1 < 2 ^ 31 by omega))) ?_)
    refine v_istore C [(4, .int (nI (F (4 * k + 1)))), (3, .int (nI 4)), (0, .int (nI k)), (1, .int (nI p)), (2, .ref fa)] rfl (by decide) dL_sign4_13 ?_
    refine v_aload_n C 4 rfl dL_sign4_15 rfl ?_
    refine v_iconst (v := 4) C dL_sign4_16 (by decide) ?_
    refine v_iload_n C 2 rfl dL_sign4_17 rfl ?_
    refine v_imul C dL_sign4_18 (v_eqi (nI_kml k 4 (by decide)) ?_)
    refine v_iconst (v := 2) C dL_sign4_19 (by decide) ?_
    refine v_iadd C dL_sign4_20 (v_eqi (nI_adk (4 * k) 2 (by decide)) ?_)
    refine v_iald C hF (vpin (show 4 * k + 2 < 60 by omega) (by decide)) dL_sign4_21 (v_eqi (y := nI (F (4 * k + 2))) (congrArg (fun j => nI (F j)) (nI_clamp (show 4 * k + 2 < 2 ^ 31 by omega))) ?_)
    refine v_istore C [(5, .int (nI (F (4 * k + 2)))), (4, .int (nI (F (4 * k + 1)))), (3, .int (nI 4)), (0, .int (nI k)), (1, .int (nI p)), (2, .ref fa)] rfl (by decide) dL_sign4_22 ?_
    refine v_iload_n C 2 rfl dL_sign4_24 rfl ?_
    refine v_iconst (v := 4) C dL_sign4_25 (by decide) ?_
    refine v_icmp_eq (tgt := 34) C dL_sign4_26 (by decide) (fun c6 => ?_) (fun c6 => absurd c6 (by decide))
    refine v_iload_n C 3 rfl dL_sign4_34 rfl ?_
    refine v_iload_n C 4 rfl dL_sign4_35 rfl ?_
    refine v_aload_n C 5 rfl dL_sign4_36 rfl ?_
    refine v_callS (rest := []) C (c_L_sign1 l hl G fa k p M F A D T lv s h hw he hF hk (by omega) hp) S_L_44 rfl rfl (Nat.le_of_ble_eq_true rfl) ⟨Nat.le_of_ble_eq_true rfl, Nat.le_of_ble_eq_true rfl⟩ ⟨Nat.le_of_ble_eq_true rfl, Nat.le_of_ble_eq_true rfl⟩ dL_sign4_37 (fun i7 h7 q7 => ?_)
    obtain ⟨e7, rfl⟩ := q7
    subst e7
    exact v_iret C hQ hr rfl (Nat.le_of_ble_eq_true rfl) (Nat.le_of_ble_eq_true rfl) dL_sign4_40 ⟨rfl, rfl⟩
  · have hTX := (congrArg txtOf fT).trans (tx5 (F (4 * k + 1)))
    have d7 := dg_le7 f1
    have hp2 : p < sb_dg (F (4 * k + 1)) := by rw [hTX, dgl_len] at hp; exact hp
    refine v_aload_n C 2 rfl dL_sign4_0 rfl ?_
    refine v_iconst (v := 4) C dL_sign4_1 (by decide) ?_
    refine v_iload_n C 0 rfl dL_sign4_2 rfl ?_
    refine v_imul C dL_sign4_3 (v_eqi (nI_kml k 4 (by decide)) ?_)
    refine v_iald C hF (vpin (show 4 * k < 60 by omega) (by decide)) dL_sign4_4 (v_eqi (y := nI 5) ((congrArg (fun j => nI (F j)) (nI_clamp (show 4 * k < 2 ^ 31 by omega))).trans (congrArg nI f0)) ?_)
    refine v_istore_n C [(3, .int (nI 5)), (0, .int (nI k)), (1, .int (nI p)), (2, .ref fa)] rfl (by decide) dL_sign4_5 rfl ?_
    refine v_aload_n C 3 rfl dL_sign4_6 rfl ?_
    refine v_iconst (v := 4) C dL_sign4_7 (by decide) ?_
    refine v_iload_n C 1 rfl dL_sign4_8 rfl ?_
    refine v_imul C dL_sign4_9 (v_eqi (nI_kml k 4 (by decide)) ?_)
    refine v_iconst (v := 1) C dL_sign4_10 (by decide) ?_
    refine v_iadd C dL_sign4_11 (v_eqi (nI_adk (4 * k) 1 (by decide)) ?_)
    refine v_iald C hF (vpin (show 4 * k + 1 < 60 by omega) (by decide)) dL_sign4_12 (v_eqi (y := nI (F (4 * k + 1))) (congrArg (fun j => nI (F j)) (nI_clamp (show 4 * k + 1 < 2 ^ 31 by omega))) ?_)
    refine v_istore C [(4, .int (nI (F (4 * k + 1)))), (3, .int (nI 5)), (0, .int (nI k)), (1, .int (nI p)), (2, .ref fa)] rfl (by decide) dL_sign4_13 ?_
    refine v_aload_n C 4 rfl dL_sign4_15 rfl ?_
    refine v_iconst (v := 4) C dL_sign4_16 (by decide) ?_
    refine v_iload_n C 2 rfl dL_sign4_17 rfl ?_
    refine v_imul C dL_sign4_18 (v_eqi (nI_kml k 4 (by decide)) ?_)
    refine v_iconst (v := 2) C dL_sign4_19 (by decide) ?_
    refine v_iadd C dL_sign4_20 (v_eqi (nI_adk (4 * k) 2 (by decide)) ?_)
    refine v_iald C hF (vpin (show 4 * k + 2 < 60 by omega) (by decide)) dL_sign4_21 (v_eqi (y := nI (F (4 * k + 2))) (congrArg (fun j => nI (F j)) (nI_clamp (show 4 * k + 2 < 2 ^ 31 by omega))) ?_)
    refine v_istore C [(5, .int (nI (F (4 * k + 2)))), (4, .int (nI (F (4 * k + 1)))), (3, .int (nI 5)), (0, .int (nI k)), (1, .int (nI p)), (2, .ref fa)] rfl (by decide) dL_sign4_22 ?_
    refine v_iload_n C 2 rfl dL_sign4_24 rfl ?_
    refine v_iconst (v := 4) C dL_sign4_25 (by decide) ?_
    refine v_icmp_eq (tgt := 34) C dL_sign4_26 (by decide) (fun c13 => absurd c13 (by decide)) (fun c13 => ?_)
    refine v_iload_n C 2 rfl dL_sign4_29 rfl ?_
    refine v_iconst (v := 5) C dL_sign4_30 (by decide) ?_
    refine v_icmp_ne (tgt := 41) C dL_sign4_31 (by decide) (fun c14 => absurd c14 (by decide)) (fun c14 => ?_)
    refine v_iload_n C 3 rfl dL_sign4_34 rfl ?_
    refine v_iload_n C 4 rfl dL_sign4_35 rfl ?_
    refine v_aload_n C 5 rfl dL_sign4_36 rfl ?_
    refine v_callS (rest := []) C (c_L_sign1 l hl G fa k p M F A D T lv s h hw he hF hk (by omega) hp) S_L_44 rfl rfl (Nat.le_of_ble_eq_true rfl) ⟨Nat.le_of_ble_eq_true rfl, Nat.le_of_ble_eq_true rfl⟩ ⟨Nat.le_of_ble_eq_true rfl, Nat.le_of_ble_eq_true rfl⟩ dL_sign4_37 (fun i15 h15 q15 => ?_)
    obtain ⟨e15, rfl⟩ := q15
    subst e15
    exact v_iret C hQ hr rfl (Nat.le_of_ble_eq_true rfl) (Nat.le_of_ble_eq_true rfl) dL_sign4_40 ⟨rfl, rfl⟩
  · have hTX := (congrArg txtOf fT).trans (tx6 (a := F (4 * k + 1)) (by omega))
    have hp2 : p < 2 := by rw [hTX] at hp; exact hp
    refine v_aload_n C 2 rfl dL_sign4_0 rfl ?_
    refine v_iconst (v := 4) C dL_sign4_1 (by decide) ?_
    refine v_iload_n C 0 rfl dL_sign4_2 rfl ?_
    refine v_imul C dL_sign4_3 (v_eqi (nI_kml k 4 (by decide)) ?_)
    refine v_iald C hF (vpin (show 4 * k < 60 by omega) (by decide)) dL_sign4_4 (v_eqi (y := nI 6) ((congrArg (fun j => nI (F j)) (nI_clamp (show 4 * k < 2 ^ 31 by omega))).trans (congrArg nI f0)) ?_)
    refine v_istore_n C [(3, .int (nI 6)), (0, .int (nI k)), (1, .int (nI p)), (2, .ref fa)] rfl (by decide) dL_sign4_5 rfl ?_
    refine v_aload_n C 3 rfl dL_sign4_6 rfl ?_
    refine v_iconst (v := 4) C dL_sign4_7 (by decide) ?_
    refine v_iload_n C 1 rfl dL_sign4_8 rfl ?_
    refine v_imul C dL_sign4_9 (v_eqi (nI_kml k 4 (by decide)) ?_)
    refine v_iconst (v := 1) C dL_sign4_10 (by decide) ?_
    refine v_iadd C dL_sign4_11 (v_eqi (nI_adk (4 * k) 1 (by decide)) ?_)
    refine v_iald C hF (vpin (show 4 * k + 1 < 60 by omega) (by decide)) dL_sign4_12 (v_eqi (y := nI (F (4 * k + 1))) (congrArg (fun j => nI (F j)) (nI_clamp (show 4 * k + 1 < 2 ^ 31 by omega))) ?_)
    refine v_istore C [(4, .int (nI (F (4 * k + 1)))), (3, .int (nI 6)), (0, .int (nI k)), (1, .int (nI p)), (2, .ref fa)] rfl (by decide) dL_sign4_13 ?_
    refine v_aload_n C 4 rfl dL_sign4_15 rfl ?_
    refine v_iconst (v := 4) C dL_sign4_16 (by decide) ?_
    refine v_iload_n C 2 rfl dL_sign4_17 rfl ?_
    refine v_imul C dL_sign4_18 (v_eqi (nI_kml k 4 (by decide)) ?_)
    refine v_iconst (v := 2) C dL_sign4_19 (by decide) ?_
    refine v_iadd C dL_sign4_20 (v_eqi (nI_adk (4 * k) 2 (by decide)) ?_)
    refine v_iald C hF (vpin (show 4 * k + 2 < 60 by omega) (by decide)) dL_sign4_21 (v_eqi (y := nI (F (4 * k + 2))) (congrArg (fun j => nI (F j)) (nI_clamp (show 4 * k + 2 < 2 ^ 31 by omega))) ?_)
    refine v_istore C [(5, .int (nI (F (4 * k + 2)))), (4, .int (nI (F (4 * k + 1)))), (3, .int (nI 6)), (0, .int (nI k)), (1, .int (nI p)), (2, .ref fa)] rfl (by decide) dL_sign4_22 ?_
    refine v_iload_n C 2 rfl dL_sign4_24 rfl ?_
    refine v_iconst (v := 4) C dL_sign4_25 (by decide) ?_
    refine v_icmp_eq (tgt := 34) C dL_sign4_26 (by decide) (fun c21 => absurd c21 (by decide)) (fun c21 => ?_)
    refine v_iload_n C 2 rfl dL_sign4_29 rfl ?_
    refine v_iconst (v := 5) C dL_sign4_30 (by decide) ?_
    refine v_icmp_ne (tgt := 41) C dL_sign4_31 (by decide) (fun c22 => ?_) (fun c22 => absurd c22 (by decide))
    refine v_iload_n C 2 rfl dL_sign4_41 rfl ?_
    refine v_bipush (v := 6) C dL_sign4_42 (by decide) ?_
    refine v_icmp_ne (tgt := 62) C dL_sign4_44 (by decide) (fun c23 => absurd c23 (by decide)) (fun c23 => ?_)
    refine v_iload_n C 4 rfl dL_sign4_47 rfl ?_
    refine v_if_ne (tgt := 56) C dL_sign4_48 (by decide) (fun c24 => ?_) (fun c24 => ?_)
    · have c24 := (nk_ne (a := p) 0 (by decide) (by omega) (by decide)).mp c24
      refine v_bipush (v := 48) C dL_sign4_56 (by decide) ?_
      refine v_iload C 1 rfl dL_sign4_58 ?_
      refine v_iadd C dL_sign4_60 (v_eqi (nI_kad (F (4 * k + 1)) 48 (by decide)) ?_)
      exact v_iret C hQ hr rfl (Nat.le_of_ble_eq_true rfl) (Nat.le_of_ble_eq_true rfl) dL_sign4_61 ⟨by rw [hTX, show p = 1 by omega]; rfl, rfl⟩
    · have c24 := (nk_ne_f (a := p) 0 (by decide) (by omega) (by decide)).mp c24
      refine v_bipush (v := 84) C dL_sign4_51 (by decide) ?_
      refine v_goto (tgt := 61) C dL_sign4_53 (by decide) ?_
      exact v_iret C hQ hr rfl (Nat.le_of_ble_eq_true rfl) (Nat.le_of_ble_eq_true rfl) dL_sign4_61 ⟨by rw [hTX, show p = 0 by omega]; rfl, rfl⟩
  · obtain ⟨X, hX⟩ : ∃ X, X = txtOf (T (F (4 * k + 1))) := ⟨_, rfl⟩
    have xl : X.length ≤ 441 := by rw [hX]; exact (he.w6 hw (k := F (4 * k + 1)) (by omega)).txl6 (Nat.le_refl _)
    obtain ⟨Y, hY⟩ : ∃ Y, Y = txtOf (T (F (4 * k + 2))) := ⟨_, rfl⟩
    have yl : Y.length ≤ 441 := by rw [hY]; exact (he.w6 hw (k := F (4 * k + 2)) (by omega)).txl6 (Nat.le_refl _)
    have hTX : txtOf (T k) = sjt (F (4 * k)) X Y := by rw [fT, txt_join (he.w6 hw (k := F (4 * k + 1)) (by omega)) (he.w6 hw (k := F (4 * k + 2)) (by omega)) f0, hX, hY]
    have hp2 := hp; rw [hTX, sjt_ln f0] at hp2
    refine v_aload_n C 2 rfl dL_sign4_0 rfl ?_
    refine v_iconst (v := 4) C dL_sign4_1 (by decide) ?_
    refine v_iload_n C 0 rfl dL_sign4_2 rfl ?_
    refine v_imul C dL_sign4_3 (v_eqi (nI_kml k 4 (by decide)) ?_)
    refine v_iald C hF (vpin (show 4 * k < 60 by omega) (by decide)) dL_sign4_4 (v_eqi (y := nI (F (4 * k))) ((congrArg (fun j => nI (F j)) (nI_clamp (show 4 * k < 2 ^ 31 by omega))).trans (congrArg nI rfl)) ?_)
    refine v_istore_n C [(3, .int (nI (F (4 * k)))), (0, .int (nI k)), (1, .int (nI p)), (2, .ref fa)] rfl (by decide) dL_sign4_5 rfl ?_
    refine v_aload_n C 3 rfl dL_sign4_6 rfl ?_
    refine v_iconst (v := 4) C dL_sign4_7 (by decide) ?_
    refine v_iload_n C 1 rfl dL_sign4_8 rfl ?_
    refine v_imul C dL_sign4_9 (v_eqi (nI_kml k 4 (by decide)) ?_)
    refine v_iconst (v := 1) C dL_sign4_10 (by decide) ?_
    refine v_iadd C dL_sign4_11 (v_eqi (nI_adk (4 * k) 1 (by decide)) ?_)
    refine v_iald C hF (vpin (show 4 * k + 1 < 60 by omega) (by decide)) dL_sign4_12 (v_eqi (y := nI (F (4 * k + 1))) (congrArg (fun j => nI (F j)) (nI_clamp (show 4 * k + 1 < 2 ^ 31 by omega))) ?_)
    refine v_istore C [(4, .int (nI (F (4 * k + 1)))), (3, .int (nI (F (4 * k)))), (0, .int (nI k)), (1, .int (nI p)), (2, .ref fa)] rfl (by decide) dL_sign4_13 ?_
    refine v_aload_n C 4 rfl dL_sign4_15 rfl ?_
    refine v_iconst (v := 4) C dL_sign4_16 (by decide) ?_
    refine v_iload_n C 2 rfl dL_sign4_17 rfl ?_
    refine v_imul C dL_sign4_18 (v_eqi (nI_kml k 4 (by decide)) ?_)
    refine v_iconst (v := 2) C dL_sign4_19 (by decide) ?_
    refine v_iadd C dL_sign4_20 (v_eqi (nI_adk (4 * k) 2 (by decide)) ?_)
    refine v_iald C hF (vpin (show 4 * k + 2 < 60 by omega) (by decide)) dL_sign4_21 (v_eqi (y := nI (F (4 * k + 2))) (congrArg (fun j => nI (F j)) (nI_clamp (show 4 * k + 2 < 2 ^ 31 by omega))) ?_)
    refine v_istore C [(5, .int (nI (F (4 * k + 2)))), (4, .int (nI (F (4 * k + 1)))), (3, .int (nI (F (4 * k)))), (0, .int (nI k)), (1, .int (nI p)), (2, .ref fa)] rfl (by decide) dL_sign4_22 ?_
    refine v_iload_n C 2 rfl dL_sign4_24 rfl ?_
    refine v_iconst (v := 4) C dL_sign4_25 (by decide) ?_
    refine v_icmp_eq (tgt := 34) C dL_sign4_26 (by decide) (fun c31 => absurd ((nk_eq (a := F (4 * k)) 4 (by decide) (by omega) (by decide)).mp c31) (by omega)) (fun c31 => ?_)
    have c31 := (nk_eq_f (a := (F (4 * k))) 4 (by decide) (by omega) (by decide)).mp c31
    refine v_iload_n C 2 rfl dL_sign4_29 rfl ?_
    refine v_iconst (v := 5) C dL_sign4_30 (by decide) ?_
    refine v_icmp_ne (tgt := 41) C dL_sign4_31 (by decide) (fun c32 => ?_) (fun c32 => absurd ((nk_ne_f (a := F (4 * k)) 5 (by decide) (by omega) (by decide)).mp c32) (by omega))
    have c32 := (nk_ne (a := (F (4 * k))) 5 (by decide) (by omega) (by decide)).mp c32
    refine v_iload_n C 2 rfl dL_sign4_41 rfl ?_
    refine v_bipush (v := 6) C dL_sign4_42 (by decide) ?_
    refine v_icmp_ne (tgt := 62) C dL_sign4_44 (by decide) (fun c33 => ?_) (fun c33 => absurd ((nk_ne_f (a := F (4 * k)) 6 (by decide) (by omega) (by decide)).mp c33) (by omega))
    have c33 := (nk_ne (a := (F (4 * k))) 6 (by decide) (by omega) (by decide)).mp c33
    refine v_iload_n C 2 rfl dL_sign4_62 rfl ?_
    refine v_bipush (v := 7) C dL_sign4_63 (by decide) ?_
    refine v_icmp_ne (tgt := 78) C dL_sign4_65 (by decide) (fun c34 => ?_) (fun c34 => absurd ((nk_ne_f (a := F (4 * k)) 7 (by decide) (by omega) (by decide)).mp c34) (by omega))
    have c34 := (nk_ne (a := (F (4 * k))) 7 (by decide) (by omega) (by decide)).mp c34
    refine v_iload_n C 2 rfl dL_sign4_78 rfl ?_
    refine v_bipush (v := 8) C dL_sign4_79 (by decide) ?_
    refine v_icmp_ne (tgt := 88) C dL_sign4_81 (by decide) (fun c35 => ?_) (fun c35 => absurd ((nk_ne_f (a := F (4 * k)) 8 (by decide) (by omega) (by decide)).mp c35) (by omega))
    have c35 := (nk_ne (a := (F (4 * k))) 8 (by decide) (by omega) (by decide)).mp c35
    refine v_iload_n C 2 rfl dL_sign4_88 rfl ?_
    refine v_iconst (v := 2) C dL_sign4_89 (by decide) ?_
    refine v_icmp_ge (tgt := 97) C dL_sign4_90 (by decide) (fun c36 => ?_) (fun c36 => ?_)
    · have c36 := (nk_ge (a := (F (4 * k))) 2 (by decide) (by omega) (by decide)).mp c36
      rw [if_neg (show ¬ F (4 * k) < 2 by omega)] at hp2
      have hfl : (fjn (F (4 * k))).length = 4 := (fjn_len f0).trans (if_neg (by omega))
      have hml : (mjn (F (4 * k))).length = 2 := (mjn_len f0).trans (if_neg (by omega))
      refine v_iconst (v := 4) C dL_sign4_97 (by decide) ?_
      refine v_istore C [(6, .int 4), (5, .int (nI (F (4 * k + 2)))), (4, .int (nI (F (4 * k + 1)))), (3, .int (nI (F (4 * k)))), (0, .int (nI k)), (1, .int (nI p)), (2, .ref fa)] rfl (by decide) dL_sign4_98 ?_
      refine v_iload C 2 rfl dL_sign4_100 ?_
      refine v_aload_n C 6 rfl dL_sign4_102 rfl ?_
      refine v_callS (rest := []) C (c_L_length3 l hl G fa (F (4 * k + 1)) M F A D T lv s h hw he hF (show F (4 * k + 1) < M by omega) (show lv (F (4 * k + 1)) ≤ 3 by omega)) S_L_64 rfl rfl (Nat.le_of_ble_eq_true rfl) ⟨Nat.le_of_ble_eq_true rfl, Nat.le_of_ble_eq_true rfl⟩ ⟨Nat.le_of_ble_eq_true rfl, Nat.le_of_ble_eq_true rfl⟩ dL_sign4_103 (fun i37 h37 q37 => ?_)
      obtain ⟨e37, rfl⟩ := q37
      rw [← hX] at e37
      subst e37
      refine v_istore C [(7, .int (nI X.length)), (6, .int 4), (5, .int (nI (F (4 * k + 2)))), (4, .int (nI (F (4 * k + 1)))), (3, .int (nI (F (4 * k)))), (0, .int (nI k)), (1, .int (nI p)), (2, .ref fa)] rfl (by decide) dL_sign4_106 ?_
      refine v_iload_n C 6 rfl dL_sign4_108 rfl ?_
      refine v_iload C 1 rfl dL_sign4_109 ?_
      refine v_icmp_ge (tgt := 122) C dL_sign4_111 (by decide) (fun c38 => ?_) (fun c38 => ?_)
      · have c38 := (nk_ge (a := p) 4 (by decide) (by omega) (by decide)).mp c38
        refine v_iload_n C 6 rfl dL_sign4_122 rfl ?_
        refine v_iload C 1 rfl dL_sign4_123 ?_
        refine v_iload C 0 rfl dL_sign4_125 ?_
        refine v_iadd C dL_sign4_127 (v_eqi (nI_kad X.length 4 (by decide)) ?_)
        refine v_icmp_ge (tgt := 142) C dL_sign4_128 (by decide) (fun c40 => ?_) (fun c40 => ?_)
        · have c40 := (nn_ge (a := p) (b := (4 + X.length)) (by omega) (by omega)).mp c40
          refine v_iload_n C 6 rfl dL_sign4_142 rfl ?_
          refine v_iload C 1 rfl dL_sign4_143 ?_
          refine v_isub C dL_sign4_145 (v_eqi (nI_sbk (a := p) 4 (by decide) (by omega)) ?_)
          refine v_iload C 0 rfl dL_sign4_146 ?_
          refine v_isub C dL_sign4_148 (v_eqi (pk_sub (a := (p - 4)) (b := X.length) (by omega)) ?_)
          refine v_istore C [(8, .int (nI ((p - 4) - X.length))), (7, .int (nI X.length)), (6, .int 4), (5, .int (nI (F (4 * k + 2)))), (4, .int (nI (F (4 * k + 1)))), (3, .int (nI (F (4 * k)))), (0, .int (nI k)), (1, .int (nI p)), (2, .ref fa)] rfl (by decide) dL_sign4_149 ?_
          refine v_iload_n C 5 rfl dL_sign4_151 rfl ?_
          refine v_iconst (v := 2) C dL_sign4_152 (by decide) ?_
          refine v_icmp_ge (tgt := 160) C dL_sign4_153 (by decide) (fun c43 => ?_) (fun c43 => absurd ((nk_ge_f (a := F (4 * k)) 2 (by decide) (by omega) (by decide)).mp c43) (by omega))
          have c43 := (nk_ge (a := (F (4 * k))) 2 (by decide) (by omega) (by decide)).mp c43
          refine v_iload_n C 5 rfl dL_sign4_160 rfl ?_
          refine v_iconst (v := 4) C dL_sign4_161 (by decide) ?_
          refine v_icmp_ge (tgt := 169) C dL_sign4_162 (by decide) (fun c44 => absurd ((nk_ge (a := F (4 * k)) 4 (by decide) (by omega) (by decide)).mp c44) (by omega)) (fun c44 => ?_)
          have c44 := (nk_ge_f (a := (F (4 * k))) 4 (by decide) (by omega) (by decide)).mp c44
          refine v_iconst (v := 2) C dL_sign4_165 (by decide) ?_
          refine v_goto (tgt := 170) C dL_sign4_166 (by decide) ?_
          refine v_istore C [(9, .int 2), (8, .int (nI ((p - 4) - X.length))), (7, .int (nI X.length)), (6, .int 4), (5, .int (nI (F (4 * k + 2)))), (4, .int (nI (F (4 * k + 1)))), (3, .int (nI (F (4 * k)))), (0, .int (nI k)), (1, .int (nI p)), (2, .ref fa)] rfl (by decide) dL_sign4_170 ?_
          refine v_iload C 1 rfl dL_sign4_172 ?_
          refine v_iload C 0 rfl dL_sign4_174 ?_
          refine v_icmp_ge (tgt := 222) C dL_sign4_176 (by decide) (fun c45 => ?_) (fun c45 => ?_)
          · have c45 := (nk_ge (a := ((p - 4) - X.length)) 2 (by decide) (by omega) (by decide)).mp c45
            refine v_iload_n C 6 rfl dL_sign4_222 rfl ?_
            refine v_iconst (v := 3) C dL_sign4_223 (by decide) ?_
            refine v_icmp_gt (tgt := 241) C dL_sign4_224 (by decide) (fun c46 => absurd ((nk_gt (a := F (4 * k)) 3 (by decide) (by omega) (by decide)).mp c46) (by omega)) (fun c46 => ?_)
            have c46 := (nk_gt_f (a := (F (4 * k))) 3 (by decide) (by omega) (by decide)).mp c46
            refine v_iload C 1 rfl dL_sign4_227 ?_
            refine v_iload C 0 rfl dL_sign4_229 ?_
            refine v_isub C dL_sign4_231 (v_eqi (nI_sbk (a := ((p - 4) - X.length)) 2 (by decide) (by omega)) ?_)
            refine v_iload C 4 rfl dL_sign4_232 ?_
            refine v_aload_n C 9 rfl dL_sign4_234 rfl ?_
            refine v_callS (rest := [.int (nI (((p - 4) - X.length) - 2))]) C (c_L_length3 l hl G fa (F (4 * k + 2)) M F A D T lv s h hw he hF (show F (4 * k + 2) < M by omega) (show lv (F (4 * k + 2)) ≤ 3 by omega)) S_L_64 rfl rfl (Nat.le_of_ble_eq_true rfl) ⟨Nat.le_of_ble_eq_true rfl, Nat.le_of_ble_eq_true rfl⟩ ⟨Nat.le_of_ble_eq_true rfl, Nat.le_of_ble_eq_true rfl⟩ dL_sign4_235 (fun i48 h48 q48 => ?_)
            obtain ⟨e48, rfl⟩ := q48
            rw [← hY] at e48
            subst e48
            refine v_icmp_ne (tgt := 246) C dL_sign4_238 (by decide) (fun c49 => ?_) (fun c49 => ?_)
            · have c49 := (nn_ne (a := (((p - 4) - X.length) - 2)) (b := Y.length) (by omega) (by omega)).mp c49
              refine v_iload C 4 rfl dL_sign4_246 ?_
              refine v_iload C 1 rfl dL_sign4_248 ?_
              refine v_iload C 0 rfl dL_sign4_250 ?_
              refine v_isub C dL_sign4_252 (v_eqi (nI_sbk (a := ((p - 4) - X.length)) 2 (by decide) (by omega)) ?_)
              refine v_aload_n C 9 rfl dL_sign4_253 rfl ?_
              refine v_callS (rest := []) C (c_L_sign3 l hl G fa (F (4 * k + 2)) (((p - 4) - X.length) - 2) M F A D T lv s h hw he hF (show F (4 * k + 2) < M by omega) (show lv (F (4 * k + 2)) ≤ 3 by omega) (by rw [← hY]; omega)) S_L_67 rfl rfl (Nat.le_of_ble_eq_true rfl) ⟨Nat.le_of_ble_eq_true rfl, Nat.le_of_ble_eq_true rfl⟩ ⟨Nat.le_of_ble_eq_true rfl, Nat.le_of_ble_eq_true rfl⟩ dL_sign4_254 (fun i51 h51 q51 => ?_)
              obtain ⟨e51, rfl⟩ := q51
              rw [← hY] at e51
              subst e51
              exact v_iret C hQ hr rfl (Nat.le_of_ble_eq_true rfl) (Nat.le_of_ble_eq_true rfl) dL_sign4_257 ⟨by rw [hTX, sjt_4 (by omega) (by omega), hfl, hml], rfl⟩
            · have c49 := (nn_ne_f (a := (((p - 4) - X.length) - 2)) (b := Y.length) (by omega) (by omega)).mp c49
              refine v_bipush (v := 41) C dL_sign4_241 (by decide) ?_
              refine v_goto (tgt := 257) C dL_sign4_243 (by decide) ?_
              exact v_iret C hQ hr rfl (Nat.le_of_ble_eq_true rfl) (Nat.le_of_ble_eq_true rfl) dL_sign4_257 ⟨by rw [hTX, sjt_5 (by omega)]; rfl, rfl⟩
          · have c45 := (nk_ge_f (a := ((p - 4) - X.length)) 2 (by decide) (by omega) (by decide)).mp c45
            refine v_iload_n C 6 rfl dL_sign4_179 rfl ?_
            refine v_iconst (v := 1) C dL_sign4_180 (by decide) ?_
            refine v_icmp_le (tgt := 199) C dL_sign4_181 (by decide) (fun c52 => absurd ((nk_le (a := F (4 * k)) 1 (by decide) (by omega) (by decide)).mp c52) (by omega)) (fun c52 => ?_)
            have c52 := (nk_le_f (a := (F (4 * k))) 1 (by decide) (by omega) (by decide)).mp c52
            refine v_iload C 1 rfl dL_sign4_184 ?_
            refine v_if_ne (tgt := 194) C dL_sign4_186 (by decide) (fun c53 => ?_) (fun c53 => ?_)
            · have c53 := (nk_ne (a := ((p - 4) - X.length)) 0 (by decide) (by omega) (by decide)).mp c53
              refine v_bipush (v := 32) C dL_sign4_194 (by decide) ?_
              refine v_goto (tgt := 221) C dL_sign4_196 (by decide) ?_
              exact v_iret C hQ hr rfl (Nat.le_of_ble_eq_true rfl) (Nat.le_of_ble_eq_true rfl) dL_sign4_221 ⟨by rw [hTX, sjt_3 (by omega) (by omega), hfl, mj_2 (by omega), show p - 4 - X.length = 1 by omega]; rfl, rfl⟩
            · have c53 := (nk_ne_f (a := ((p - 4) - X.length)) 0 (by decide) (by omega) (by decide)).mp c53
              refine v_bipush (v := 44) C dL_sign4_189 (by decide) ?_
              refine v_goto (tgt := 221) C dL_sign4_191 (by decide) ?_
              exact v_iret C hQ hr rfl (Nat.le_of_ble_eq_true rfl) (Nat.le_of_ble_eq_true rfl) dL_sign4_221 ⟨by rw [hTX, sjt_3 (by omega) (by omega), hfl, mj_2 (by omega), show p - 4 - X.length = 0 by omega]; rfl, rfl⟩
        · have c40 := (nn_ge_f (a := p) (b := (4 + X.length)) (by omega) (by omega)).mp c40
          refine v_iload C 3 rfl dL_sign4_131 ?_
          refine v_iload_n C 6 rfl dL_sign4_133 rfl ?_
          refine v_iload C 1 rfl dL_sign4_134 ?_
          refine v_isub C dL_sign4_136 (v_eqi (nI_sbk (a := p) 4 (by decide) (by omega)) ?_)
          refine v_aload_n C 7 rfl dL_sign4_137 rfl ?_
          refine v_callS (rest := []) C (c_L_sign3 l hl G fa (F (4 * k + 1)) (p - 4) M F A D T lv s h hw he hF (show F (4 * k + 1) < M by omega) (show lv (F (4 * k + 1)) ≤ 3 by omega) (by rw [← hX]; omega)) S_L_67 rfl rfl (Nat.le_of_ble_eq_true rfl) ⟨Nat.le_of_ble_eq_true rfl, Nat.le_of_ble_eq_true rfl⟩ ⟨Nat.le_of_ble_eq_true rfl, Nat.le_of_ble_eq_true rfl⟩ dL_sign4_138 (fun i55 h55 q55 => ?_)
          obtain ⟨e55, rfl⟩ := q55
          rw [← hX] at e55
          subst e55
          exact v_iret C hQ hr rfl (Nat.le_of_ble_eq_true rfl) (Nat.le_of_ble_eq_true rfl) dL_sign4_141 ⟨by rw [hTX, sjt_2 (by omega) (by omega), hfl], rfl⟩
      · have c38 := (nk_ge_f (a := p) 4 (by decide) (by omega) (by decide)).mp c38
        refine v_iload_n C 4 rfl dL_sign4_114 rfl ?_
        refine v_iload C 2 rfl dL_sign4_115 ?_
        refine v_iload_n C 6 rfl dL_sign4_117 rfl ?_
        refine v_callS (rest := []) C (c_L_front_j l hl G (F (4 * k)) (F (4 * k + 2)) p h f0 (by omega)) S_L_47 rfl rfl (Nat.le_of_ble_eq_true rfl) ⟨Nat.le_of_ble_eq_true rfl, Nat.le_of_ble_eq_true rfl⟩ ⟨Nat.le_of_ble_eq_true rfl, Nat.le_of_ble_eq_true rfl⟩ dL_sign4_118 (fun i56 h56 q56 => ?_)
        obtain ⟨e56, rfl⟩ := q56; subst e56
        exact v_iret C hQ hr rfl (Nat.le_of_ble_eq_true rfl) (Nat.le_of_ble_eq_true rfl) dL_sign4_121 ⟨by rw [hTX, sjt_1 (by omega)], rfl⟩
    · have c36 := (nk_ge_f (a := (F (4 * k))) 2 (by decide) (by omega) (by decide)).mp c36
      rw [if_pos (show F (4 * k) < 2 by omega)] at hp2
      have hfl : (fjn (F (4 * k))).length = 1 := (fjn_len f0).trans (if_pos (by omega))
      have hml : (mjn (F (4 * k))).length = 3 := (mjn_len f0).trans (if_pos (by omega))
      refine v_iconst (v := 1) C dL_sign4_93 (by decide) ?_
      refine v_goto (tgt := 98) C dL_sign4_94 (by decide) ?_
      refine v_istore C [(6, .int 1), (5, .int (nI (F (4 * k + 2)))), (4, .int (nI (F (4 * k + 1)))), (3, .int (nI (F (4 * k)))), (0, .int (nI k)), (1, .int (nI p)), (2, .ref fa)] rfl (by decide) dL_sign4_98 ?_
      refine v_iload C 2 rfl dL_sign4_100 ?_
      refine v_aload_n C 6 rfl dL_sign4_102 rfl ?_
      refine v_callS (rest := []) C (c_L_length3 l hl G fa (F (4 * k + 1)) M F A D T lv s h hw he hF (show F (4 * k + 1) < M by omega) (show lv (F (4 * k + 1)) ≤ 3 by omega)) S_L_64 rfl rfl (Nat.le_of_ble_eq_true rfl) ⟨Nat.le_of_ble_eq_true rfl, Nat.le_of_ble_eq_true rfl⟩ ⟨Nat.le_of_ble_eq_true rfl, Nat.le_of_ble_eq_true rfl⟩ dL_sign4_103 (fun i57 h57 q57 => ?_)
      obtain ⟨e57, rfl⟩ := q57
      rw [← hX] at e57
      subst e57
      refine v_istore C [(7, .int (nI X.length)), (6, .int 1), (5, .int (nI (F (4 * k + 2)))), (4, .int (nI (F (4 * k + 1)))), (3, .int (nI (F (4 * k)))), (0, .int (nI k)), (1, .int (nI p)), (2, .ref fa)] rfl (by decide) dL_sign4_106 ?_
      refine v_iload_n C 6 rfl dL_sign4_108 rfl ?_
      refine v_iload C 1 rfl dL_sign4_109 ?_
      refine v_icmp_ge (tgt := 122) C dL_sign4_111 (by decide) (fun c58 => ?_) (fun c58 => ?_)
      · have c58 := (nk_ge (a := p) 1 (by decide) (by omega) (by decide)).mp c58
        refine v_iload_n C 6 rfl dL_sign4_122 rfl ?_
        refine v_iload C 1 rfl dL_sign4_123 ?_
        refine v_iload C 0 rfl dL_sign4_125 ?_
        refine v_iadd C dL_sign4_127 (v_eqi (nI_kad X.length 1 (by decide)) ?_)
        refine v_icmp_ge (tgt := 142) C dL_sign4_128 (by decide) (fun c60 => ?_) (fun c60 => ?_)
        · have c60 := (nn_ge (a := p) (b := (1 + X.length)) (by omega) (by omega)).mp c60
          refine v_iload_n C 6 rfl dL_sign4_142 rfl ?_
          refine v_iload C 1 rfl dL_sign4_143 ?_
          refine v_isub C dL_sign4_145 (v_eqi (nI_sbk (a := p) 1 (by decide) (by omega)) ?_)
          refine v_iload C 0 rfl dL_sign4_146 ?_
          refine v_isub C dL_sign4_148 (v_eqi (pk_sub (a := (p - 1)) (b := X.length) (by omega)) ?_)
          refine v_istore C [(8, .int (nI ((p - 1) - X.length))), (7, .int (nI X.length)), (6, .int 1), (5, .int (nI (F (4 * k + 2)))), (4, .int (nI (F (4 * k + 1)))), (3, .int (nI (F (4 * k)))), (0, .int (nI k)), (1, .int (nI p)), (2, .ref fa)] rfl (by decide) dL_sign4_149 ?_
          refine v_iload_n C 5 rfl dL_sign4_151 rfl ?_
          refine v_iconst (v := 2) C dL_sign4_152 (by decide) ?_
          refine v_icmp_ge (tgt := 160) C dL_sign4_153 (by decide) (fun c63 => absurd ((nk_ge (a := F (4 * k)) 2 (by decide) (by omega) (by decide)).mp c63) (by omega)) (fun c63 => ?_)
          have c63 := (nk_ge_f (a := (F (4 * k))) 2 (by decide) (by omega) (by decide)).mp c63
          refine v_iconst (v := 3) C dL_sign4_156 (by decide) ?_
          refine v_goto (tgt := 170) C dL_sign4_157 (by decide) ?_
          refine v_istore C [(9, .int 3), (8, .int (nI ((p - 1) - X.length))), (7, .int (nI X.length)), (6, .int 1), (5, .int (nI (F (4 * k + 2)))), (4, .int (nI (F (4 * k + 1)))), (3, .int (nI (F (4 * k)))), (0, .int (nI k)), (1, .int (nI p)), (2, .ref fa)] rfl (by decide) dL_sign4_170 ?_
          refine v_iload C 1 rfl dL_sign4_172 ?_
          refine v_iload C 0 rfl dL_sign4_174 ?_
          refine v_icmp_ge (tgt := 222) C dL_sign4_176 (by decide) (fun c64 => ?_) (fun c64 => ?_)
          · have c64 := (nk_ge (a := ((p - 1) - X.length)) 3 (by decide) (by omega) (by decide)).mp c64
            refine v_iload_n C 6 rfl dL_sign4_222 rfl ?_
            refine v_iconst (v := 3) C dL_sign4_223 (by decide) ?_
            refine v_icmp_gt (tgt := 241) C dL_sign4_224 (by decide) (fun c65 => absurd ((nk_gt (a := F (4 * k)) 3 (by decide) (by omega) (by decide)).mp c65) (by omega)) (fun c65 => ?_)
            have c65 := (nk_gt_f (a := (F (4 * k))) 3 (by decide) (by omega) (by decide)).mp c65
            refine v_iload C 1 rfl dL_sign4_227 ?_
            refine v_iload C 0 rfl dL_sign4_229 ?_
            refine v_isub C dL_sign4_231 (v_eqi (nI_sbk (a := ((p - 1) - X.length)) 3 (by decide) (by omega)) ?_)
            refine v_iload C 4 rfl dL_sign4_232 ?_
            refine v_aload_n C 9 rfl dL_sign4_234 rfl ?_
            refine v_callS (rest := [.int (nI (((p - 1) - X.length) - 3))]) C (c_L_length3 l hl G fa (F (4 * k + 2)) M F A D T lv s h hw he hF (show F (4 * k + 2) < M by omega) (show lv (F (4 * k + 2)) ≤ 3 by omega)) S_L_64 rfl rfl (Nat.le_of_ble_eq_true rfl) ⟨Nat.le_of_ble_eq_true rfl, Nat.le_of_ble_eq_true rfl⟩ ⟨Nat.le_of_ble_eq_true rfl, Nat.le_of_ble_eq_true rfl⟩ dL_sign4_235 (fun i67 h67 q67 => ?_)
            obtain ⟨e67, rfl⟩ := q67
            rw [← hY] at e67
            subst e67
            refine v_icmp_ne (tgt := 246) C dL_sign4_238 (by decide) (fun c68 => ?_) (fun c68 => ?_)
            · have c68 := (nn_ne (a := (((p - 1) - X.length) - 3)) (b := Y.length) (by omega) (by omega)).mp c68
              refine v_iload C 4 rfl dL_sign4_246 ?_
              refine v_iload C 1 rfl dL_sign4_248 ?_
              refine v_iload C 0 rfl dL_sign4_250 ?_
              refine v_isub C dL_sign4_252 (v_eqi (nI_sbk (a := ((p - 1) - X.length)) 3 (by decide) (by omega)) ?_)
              refine v_aload_n C 9 rfl dL_sign4_253 rfl ?_
              refine v_callS (rest := []) C (c_L_sign3 l hl G fa (F (4 * k + 2)) (((p - 1) - X.length) - 3) M F A D T lv s h hw he hF (show F (4 * k + 2) < M by omega) (show lv (F (4 * k + 2)) ≤ 3 by omega) (by rw [← hY]; omega)) S_L_67 rfl rfl (Nat.le_of_ble_eq_true rfl) ⟨Nat.le_of_ble_eq_true rfl, Nat.le_of_ble_eq_true rfl⟩ ⟨Nat.le_of_ble_eq_true rfl, Nat.le_of_ble_eq_true rfl⟩ dL_sign4_254 (fun i70 h70 q70 => ?_)
              obtain ⟨e70, rfl⟩ := q70
              rw [← hY] at e70
              subst e70
              exact v_iret C hQ hr rfl (Nat.le_of_ble_eq_true rfl) (Nat.le_of_ble_eq_true rfl) dL_sign4_257 ⟨by rw [hTX, sjt_4 (by omega) (by omega), hfl, hml], rfl⟩
            · have c68 := (nn_ne_f (a := (((p - 1) - X.length) - 3)) (b := Y.length) (by omega) (by omega)).mp c68
              refine v_bipush (v := 41) C dL_sign4_241 (by decide) ?_
              refine v_goto (tgt := 257) C dL_sign4_243 (by decide) ?_
              exact v_iret C hQ hr rfl (Nat.le_of_ble_eq_true rfl) (Nat.le_of_ble_eq_true rfl) dL_sign4_257 ⟨by rw [hTX, sjt_5 (by omega)]; rfl, rfl⟩
          · have c64 := (nk_ge_f (a := ((p - 1) - X.length)) 3 (by decide) (by omega) (by decide)).mp c64
            refine v_iload_n C 6 rfl dL_sign4_179 rfl ?_
            refine v_iconst (v := 1) C dL_sign4_180 (by decide) ?_
            refine v_icmp_le (tgt := 199) C dL_sign4_181 (by decide) (fun c71 => ?_) (fun c71 => absurd ((nk_le_f (a := F (4 * k)) 1 (by decide) (by omega) (by decide)).mp c71) (by omega))
            have c71 := (nk_le (a := (F (4 * k))) 1 (by decide) (by omega) (by decide)).mp c71
            refine v_iload C 1 rfl dL_sign4_199 ?_
            refine v_iconst (v := 1) C dL_sign4_201 (by decide) ?_
            refine v_icmp_eq (tgt := 210) C dL_sign4_202 (by decide) (fun c72 => ?_) (fun c72 => ?_)
            · have c72 := (nk_eq (a := ((p - 1) - X.length)) 1 (by decide) (by omega) (by decide)).mp c72
              refine v_iload_n C 6 rfl dL_sign4_210 rfl ?_
              refine v_if_ne (tgt := 219) C dL_sign4_211 (by decide) (fun c73 => ?_) (fun c73 => ?_)
              · have c73 := (nk_ne (a := (F (4 * k))) 0 (by decide) (by omega) (by decide)).mp c73
                refine v_bipush (v := 45) C dL_sign4_219 (by decide) ?_
                exact v_iret C hQ hr rfl (Nat.le_of_ble_eq_true rfl) (Nat.le_of_ble_eq_true rfl) dL_sign4_221 ⟨by rw [hTX, sjt_3 (by omega) (by omega), hfl, show p - 1 - X.length = 1 by omega, show F (4 * k) = 1 by omega]; rfl, rfl⟩
              · have c73 := (nk_ne_f (a := (F (4 * k))) 0 (by decide) (by omega) (by decide)).mp c73
                refine v_bipush (v := 43) C dL_sign4_214 (by decide) ?_
                refine v_goto (tgt := 221) C dL_sign4_216 (by decide) ?_
                exact v_iret C hQ hr rfl (Nat.le_of_ble_eq_true rfl) (Nat.le_of_ble_eq_true rfl) dL_sign4_221 ⟨by rw [hTX, sjt_3 (by omega) (by omega), hfl, show p - 1 - X.length = 1 by omega, show F (4 * k) = 0 by omega]; rfl, rfl⟩
            · have c72 := (nk_eq_f (a := ((p - 1) - X.length)) 1 (by decide) (by omega) (by decide)).mp c72
              refine v_bipush (v := 32) C dL_sign4_205 (by decide) ?_
              refine v_goto (tgt := 221) C dL_sign4_207 (by decide) ?_
              exact v_iret C hQ hr rfl (Nat.le_of_ble_eq_true rfl) (Nat.le_of_ble_eq_true rfl) dL_sign4_221 ⟨by rw [hTX, sjt_3 (by omega) (by omega), hfl, mj_b (by omega) (by omega) (by omega)]; rfl, rfl⟩
        · have c60 := (nn_ge_f (a := p) (b := (1 + X.length)) (by omega) (by omega)).mp c60
          refine v_iload C 3 rfl dL_sign4_131 ?_
          refine v_iload_n C 6 rfl dL_sign4_133 rfl ?_
          refine v_iload C 1 rfl dL_sign4_134 ?_
          refine v_isub C dL_sign4_136 (v_eqi (nI_sbk (a := p) 1 (by decide) (by omega)) ?_)
          refine v_aload_n C 7 rfl dL_sign4_137 rfl ?_
          refine v_callS (rest := []) C (c_L_sign3 l hl G fa (F (4 * k + 1)) (p - 1) M F A D T lv s h hw he hF (show F (4 * k + 1) < M by omega) (show lv (F (4 * k + 1)) ≤ 3 by omega) (by rw [← hX]; omega)) S_L_67 rfl rfl (Nat.le_of_ble_eq_true rfl) ⟨Nat.le_of_ble_eq_true rfl, Nat.le_of_ble_eq_true rfl⟩ ⟨Nat.le_of_ble_eq_true rfl, Nat.le_of_ble_eq_true rfl⟩ dL_sign4_138 (fun i75 h75 q75 => ?_)
          obtain ⟨e75, rfl⟩ := q75
          rw [← hX] at e75
          subst e75
          exact v_iret C hQ hr rfl (Nat.le_of_ble_eq_true rfl) (Nat.le_of_ble_eq_true rfl) dL_sign4_141 ⟨by rw [hTX, sjt_2 (by omega) (by omega), hfl], rfl⟩
      · have c58 := (nk_ge_f (a := p) 1 (by decide) (by omega) (by decide)).mp c58
        refine v_iload_n C 4 rfl dL_sign4_114 rfl ?_
        refine v_iload C 2 rfl dL_sign4_115 ?_
        refine v_iload_n C 6 rfl dL_sign4_117 rfl ?_
        refine v_callS (rest := []) C (c_L_front_j l hl G (F (4 * k)) (F (4 * k + 2)) p h f0 (by omega)) S_L_47 rfl rfl (Nat.le_of_ble_eq_true rfl) ⟨Nat.le_of_ble_eq_true rfl, Nat.le_of_ble_eq_true rfl⟩ ⟨Nat.le_of_ble_eq_true rfl, Nat.le_of_ble_eq_true rfl⟩ dL_sign4_118 (fun i76 h76 q76 => ?_)
        obtain ⟨e76, rfl⟩ := q76; subst e76
        exact v_iret C hQ hr rfl (Nat.le_of_ble_eq_true rfl) (Nat.le_of_ble_eq_true rfl) dL_sign4_121 ⟨by rw [hTX, sjt_1 (by omega)], rfl⟩
  · obtain ⟨X, hX⟩ : ∃ X, X = txtOf (T (F (4 * k + 1))) := ⟨_, rfl⟩
    have xl : X.length ≤ 441 := by rw [hX]; exact (he.w6 hw (k := F (4 * k + 1)) (by omega)).txl6 (Nat.le_refl _)
    have hTX : txtOf (T k) = dgl (F (4 * k + 2)) ++ [37, 32, 111, 102, 32] ++ X := by rw [fT, txt_share (he.w6 hw (k := F (4 * k + 1)) (by omega)), hX]
    have d3 := dg_le3 f2
    have hp2 : p < sb_dg (F (4 * k + 2)) + 5 + X.length := by rw [hTX] at hp; simp only [List.length_append, dgl_len, List.length_cons, List.length_nil] at hp; omega
    refine v_aload_n C 2 rfl dL_sign4_0 rfl ?_
    refine v_iconst (v := 4) C dL_sign4_1 (by decide) ?_
    refine v_iload_n C 0 rfl dL_sign4_2 rfl ?_
    refine v_imul C dL_sign4_3 (v_eqi (nI_kml k 4 (by decide)) ?_)
    refine v_iald C hF (vpin (show 4 * k < 60 by omega) (by decide)) dL_sign4_4 (v_eqi (y := nI 7) ((congrArg (fun j => nI (F j)) (nI_clamp (show 4 * k < 2 ^ 31 by omega))).trans (congrArg nI f0)) ?_)
    refine v_istore_n C [(3, .int (nI 7)), (0, .int (nI k)), (1, .int (nI p)), (2, .ref fa)] rfl (by decide) dL_sign4_5 rfl ?_
    refine v_aload_n C 3 rfl dL_sign4_6 rfl ?_
    refine v_iconst (v := 4) C dL_sign4_7 (by decide) ?_
    refine v_iload_n C 1 rfl dL_sign4_8 rfl ?_
    refine v_imul C dL_sign4_9 (v_eqi (nI_kml k 4 (by decide)) ?_)
    refine v_iconst (v := 1) C dL_sign4_10 (by decide) ?_
    refine v_iadd C dL_sign4_11 (v_eqi (nI_adk (4 * k) 1 (by decide)) ?_)
    refine v_iald C hF (vpin (show 4 * k + 1 < 60 by omega) (by decide)) dL_sign4_12 (v_eqi (y := nI (F (4 * k + 1))) (congrArg (fun j => nI (F j)) (nI_clamp (show 4 * k + 1 < 2 ^ 31 by omega))) ?_)
    refine v_istore C [(4, .int (nI (F (4 * k + 1)))), (3, .int (nI 7)), (0, .int (nI k)), (1, .int (nI p)), (2, .ref fa)] rfl (by decide) dL_sign4_13 ?_
    refine v_aload_n C 4 rfl dL_sign4_15 rfl ?_
    refine v_iconst (v := 4) C dL_sign4_16 (by decide) ?_
    refine v_iload_n C 2 rfl dL_sign4_17 rfl ?_
    refine v_imul C dL_sign4_18 (v_eqi (nI_kml k 4 (by decide)) ?_)
    refine v_iconst (v := 2) C dL_sign4_19 (by decide) ?_
    refine v_iadd C dL_sign4_20 (v_eqi (nI_adk (4 * k) 2 (by decide)) ?_)
    refine v_iald C hF (vpin (show 4 * k + 2 < 60 by omega) (by decide)) dL_sign4_21 (v_eqi (y := nI (F (4 * k + 2))) (congrArg (fun j => nI (F j)) (nI_clamp (show 4 * k + 2 < 2 ^ 31 by omega))) ?_)
    refine v_istore C [(5, .int (nI (F (4 * k + 2)))), (4, .int (nI (F (4 * k + 1)))), (3, .int (nI 7)), (0, .int (nI k)), (1, .int (nI p)), (2, .ref fa)] rfl (by decide) dL_sign4_22 ?_
    refine v_iload_n C 2 rfl dL_sign4_24 rfl ?_
    refine v_iconst (v := 4) C dL_sign4_25 (by decide) ?_
    refine v_icmp_eq (tgt := 34) C dL_sign4_26 (by decide) (fun c82 => absurd c82 (by decide)) (fun c82 => ?_)
    refine v_iload_n C 2 rfl dL_sign4_29 rfl ?_
    refine v_iconst (v := 5) C dL_sign4_30 (by decide) ?_
    refine v_icmp_ne (tgt := 41) C dL_sign4_31 (by decide) (fun c83 => ?_) (fun c83 => absurd c83 (by decide))
    refine v_iload_n C 2 rfl dL_sign4_41 rfl ?_
    refine v_bipush (v := 6) C dL_sign4_42 (by decide) ?_
    refine v_icmp_ne (tgt := 62) C dL_sign4_44 (by decide) (fun c84 => ?_) (fun c84 => absurd c84 (by decide))
    refine v_iload_n C 2 rfl dL_sign4_62 rfl ?_
    refine v_bipush (v := 7) C dL_sign4_63 (by decide) ?_
    refine v_icmp_ne (tgt := 78) C dL_sign4_65 (by decide) (fun c85 => absurd c85 (by decide)) (fun c85 => ?_)
    refine v_iload C 0 rfl dL_sign4_68 ?_
    refine v_callS (rest := []) C (c_L_digits l hl G (F (4 * k + 2)) h (by omega)) S_L_12 rfl rfl (Nat.le_of_ble_eq_true rfl) ⟨Nat.le_of_ble_eq_true rfl, Nat.le_of_ble_eq_true rfl⟩ ⟨Nat.le_of_ble_eq_true rfl, Nat.le_of_ble_eq_true rfl⟩ dL_sign4_70 (fun i86 h86 q86 => ?_)
    obtain ⟨e86, rfl⟩ := q86; subst e86
    refine v_iconst (v := 5) C dL_sign4_73 (by decide) ?_
    refine v_iadd C dL_sign4_74 (v_eqi (nI_adk (sb_dg (F (4 * k + 2))) 5 (by decide)) ?_)
    refine v_goto (tgt := 98) C dL_sign4_75 (by decide) ?_
    refine v_istore C [(6, .int (nI ((sb_dg (F (4 * k + 2))) + 5))), (5, .int (nI (F (4 * k + 2)))), (4, .int (nI (F (4 * k + 1)))), (3, .int (nI 7)), (0, .int (nI k)), (1, .int (nI p)), (2, .ref fa)] rfl (by decide) dL_sign4_98 ?_
    refine v_iload C 2 rfl dL_sign4_100 ?_
    refine v_aload_n C 6 rfl dL_sign4_102 rfl ?_
    refine v_callS (rest := []) C (c_L_length3 l hl G fa (F (4 * k + 1)) M F A D T lv s h hw he hF (show F (4 * k + 1) < M by omega) (show lv (F (4 * k + 1)) ≤ 3 by omega)) S_L_64 rfl rfl (Nat.le_of_ble_eq_true rfl) ⟨Nat.le_of_ble_eq_true rfl, Nat.le_of_ble_eq_true rfl⟩ ⟨Nat.le_of_ble_eq_true rfl, Nat.le_of_ble_eq_true rfl⟩ dL_sign4_103 (fun i88 h88 q88 => ?_)
    obtain ⟨e88, rfl⟩ := q88
    rw [← hX] at e88
    subst e88
    refine v_istore C [(7, .int (nI X.length)), (6, .int (nI ((sb_dg (F (4 * k + 2))) + 5))), (5, .int (nI (F (4 * k + 2)))), (4, .int (nI (F (4 * k + 1)))), (3, .int (nI 7)), (0, .int (nI k)), (1, .int (nI p)), (2, .ref fa)] rfl (by decide) dL_sign4_106 ?_
    refine v_iload_n C 6 rfl dL_sign4_108 rfl ?_
    refine v_iload C 1 rfl dL_sign4_109 ?_
    refine v_icmp_ge (tgt := 122) C dL_sign4_111 (by decide) (fun c89 => ?_) (fun c89 => ?_)
    · have c89 := (nn_ge (a := p) (b := ((sb_dg (F (4 * k + 2))) + 5)) (by omega) (by omega)).mp c89
      refine v_iload_n C 6 rfl dL_sign4_122 rfl ?_
      refine v_iload C 1 rfl dL_sign4_123 ?_
      refine v_iload C 0 rfl dL_sign4_125 ?_
      refine v_iadd C dL_sign4_127 (v_eqi (nI_add ((sb_dg (F (4 * k + 2))) + 5) X.length) ?_)
      refine v_icmp_ge (tgt := 142) C dL_sign4_128 (by decide) (fun c91 => absurd ((nn_ge (a := p) (b := ((sb_dg (F (4 * k + 2))) + 5) + X.length) (by omega) (by omega)).mp c91) (by omega)) (fun c91 => ?_)
      have c91 := (nn_ge_f (a := p) (b := (((sb_dg (F (4 * k + 2))) + 5) + X.length)) (by omega) (by omega)).mp c91
      refine v_iload C 3 rfl dL_sign4_131 ?_
      refine v_iload_n C 6 rfl dL_sign4_133 rfl ?_
      refine v_iload C 1 rfl dL_sign4_134 ?_
      refine v_isub C dL_sign4_136 (v_eqi (pk_sub (a := p) (b := ((sb_dg (F (4 * k + 2))) + 5)) (by omega)) ?_)
      refine v_aload_n C 7 rfl dL_sign4_137 rfl ?_
      refine v_callS (rest := []) C (c_L_sign3 l hl G fa (F (4 * k + 1)) (p - ((sb_dg (F (4 * k + 2))) + 5)) M F A D T lv s h hw he hF (show F (4 * k + 1) < M by omega) (show lv (F (4 * k + 1)) ≤ 3 by omega) (by rw [← hX]; omega)) S_L_67 rfl rfl (Nat.le_of_ble_eq_true rfl) ⟨Nat.le_of_ble_eq_true rfl, Nat.le_of_ble_eq_true rfl⟩ ⟨Nat.le_of_ble_eq_true rfl, Nat.le_of_ble_eq_true rfl⟩ dL_sign4_138 (fun i93 h93 q93 => ?_)
      obtain ⟨e93, rfl⟩ := q93
      rw [← hX] at e93
      subst e93
      exact v_iret C hQ hr rfl (Nat.le_of_ble_eq_true rfl) (Nat.le_of_ble_eq_true rfl) dL_sign4_141 ⟨by rw [hTX, gd_r (by simp only [List.length_append, dgl_len, List.length_cons, List.length_nil]; omega)]; simp only [List.length_append, dgl_len, List.length_cons, List.length_nil], rfl⟩
    · have c89 := (nn_ge_f (a := p) (b := ((sb_dg (F (4 * k + 2))) + 5)) (by omega) (by omega)).mp c89
      refine v_iload_n C 4 rfl dL_sign4_114 rfl ?_
      refine v_iload C 2 rfl dL_sign4_115 ?_
      refine v_iload_n C 6 rfl dL_sign4_117 rfl ?_
      refine v_callS (rest := []) C (c_L_front_7 l hl G (F (4 * k + 2)) p h (by omega) (by omega)) S_L_47 rfl rfl (Nat.le_of_ble_eq_true rfl) ⟨Nat.le_of_ble_eq_true rfl, Nat.le_of_ble_eq_true rfl⟩ ⟨Nat.le_of_ble_eq_true rfl, Nat.le_of_ble_eq_true rfl⟩ dL_sign4_118 (fun i94 h94 q94 => ?_)
      obtain ⟨e94, rfl⟩ := q94; subst e94
      exact v_iret C hQ hr rfl (Nat.le_of_ble_eq_true rfl) (Nat.le_of_ble_eq_true rfl) dL_sign4_121 ⟨congrArg nI ((gd_l (b := X) (show p < (dgl (F (4 * k + 2)) ++ [37, 32, 111, 102, 32]).length by simp only [List.length_append, dgl_len, List.length_cons, List.length_nil]; omega)).symm.trans (congrArg (fun z => z.getD p 0) hTX.symm)), rfl⟩
  · obtain ⟨X, hX⟩ : ∃ X, X = txtOf (T (F (4 * k + 1))) := ⟨_, rfl⟩
    have xl : X.length ≤ 441 := by rw [hX]; exact (he.w6 hw (k := F (4 * k + 1)) (by omega)).txl6 (Nat.le_refl _)
    have hTX : txtOf (T k) = [121, 101, 97, 114, 40] ++ X ++ [41] := by rw [fT, txt_year (he.w6 hw (k := F (4 * k + 1)) (by omega)), hX]
    have hp2 : p < 5 + X.length + 1 := by rw [hTX] at hp; simp only [List.length_append, List.length_cons, List.length_nil] at hp; omega
    refine v_aload_n C 2 rfl dL_sign4_0 rfl ?_
    refine v_iconst (v := 4) C dL_sign4_1 (by decide) ?_
    refine v_iload_n C 0 rfl dL_sign4_2 rfl ?_
    refine v_imul C dL_sign4_3 (v_eqi (nI_kml k 4 (by decide)) ?_)
    refine v_iald C hF (vpin (show 4 * k < 60 by omega) (by decide)) dL_sign4_4 (v_eqi (y := nI 8) ((congrArg (fun j => nI (F j)) (nI_clamp (show 4 * k < 2 ^ 31 by omega))).trans (congrArg nI f0)) ?_)
    refine v_istore_n C [(3, .int (nI 8)), (0, .int (nI k)), (1, .int (nI p)), (2, .ref fa)] rfl (by decide) dL_sign4_5 rfl ?_
    refine v_aload_n C 3 rfl dL_sign4_6 rfl ?_
    refine v_iconst (v := 4) C dL_sign4_7 (by decide) ?_
    refine v_iload_n C 1 rfl dL_sign4_8 rfl ?_
    refine v_imul C dL_sign4_9 (v_eqi (nI_kml k 4 (by decide)) ?_)
    refine v_iconst (v := 1) C dL_sign4_10 (by decide) ?_
    refine v_iadd C dL_sign4_11 (v_eqi (nI_adk (4 * k) 1 (by decide)) ?_)
    refine v_iald C hF (vpin (show 4 * k + 1 < 60 by omega) (by decide)) dL_sign4_12 (v_eqi (y := nI (F (4 * k + 1))) (congrArg (fun j => nI (F j)) (nI_clamp (show 4 * k + 1 < 2 ^ 31 by omega))) ?_)
    refine v_istore C [(4, .int (nI (F (4 * k + 1)))), (3, .int (nI 8)), (0, .int (nI k)), (1, .int (nI p)), (2, .ref fa)] rfl (by decide) dL_sign4_13 ?_
    refine v_aload_n C 4 rfl dL_sign4_15 rfl ?_
    refine v_iconst (v := 4) C dL_sign4_16 (by decide) ?_
    refine v_iload_n C 2 rfl dL_sign4_17 rfl ?_
    refine v_imul C dL_sign4_18 (v_eqi (nI_kml k 4 (by decide)) ?_)
    refine v_iconst (v := 2) C dL_sign4_19 (by decide) ?_
    refine v_iadd C dL_sign4_20 (v_eqi (nI_adk (4 * k) 2 (by decide)) ?_)
    refine v_iald C hF (vpin (show 4 * k + 2 < 60 by omega) (by decide)) dL_sign4_21 (v_eqi (y := nI (F (4 * k + 2))) (congrArg (fun j => nI (F j)) (nI_clamp (show 4 * k + 2 < 2 ^ 31 by omega))) ?_)
    refine v_istore C [(5, .int (nI (F (4 * k + 2)))), (4, .int (nI (F (4 * k + 1)))), (3, .int (nI 8)), (0, .int (nI k)), (1, .int (nI p)), (2, .ref fa)] rfl (by decide) dL_sign4_22 ?_
    refine v_iload_n C 2 rfl dL_sign4_24 rfl ?_
    refine v_iconst (v := 4) C dL_sign4_25 (by decide) ?_
    refine v_icmp_eq (tgt := 34) C dL_sign4_26 (by decide) (fun c100 => absurd c100 (by decide)) (fun c100 => ?_)
    refine v_iload_n C 2 rfl dL_sign4_29 rfl ?_
    refine v_iconst (v := 5) C dL_sign4_30 (by decide) ?_
    refine v_icmp_ne (tgt := 41) C dL_sign4_31 (by decide) (fun c101 => ?_) (fun c101 => absurd c101 (by decide))
    refine v_iload_n C 2 rfl dL_sign4_41 rfl ?_
    refine v_bipush (v := 6) C dL_sign4_42 (by decide) ?_
    refine v_icmp_ne (tgt := 62) C dL_sign4_44 (by decide) (fun c102 => ?_) (fun c102 => absurd c102 (by decide))
    refine v_iload_n C 2 rfl dL_sign4_62 rfl ?_
    refine v_bipush (v := 7) C dL_sign4_63 (by decide) ?_
    refine v_icmp_ne (tgt := 78) C dL_sign4_65 (by decide) (fun c103 => ?_) (fun c103 => absurd c103 (by decide))
    refine v_iload_n C 2 rfl dL_sign4_78 rfl ?_
    refine v_bipush (v := 8) C dL_sign4_79 (by decide) ?_
    refine v_icmp_ne (tgt := 88) C dL_sign4_81 (by decide) (fun c104 => absurd c104 (by decide)) (fun c104 => ?_)
    refine v_iconst (v := 5) C dL_sign4_84 (by decide) ?_
    refine v_goto (tgt := 98) C dL_sign4_85 (by decide) ?_
    refine v_istore C [(6, .int 5), (5, .int (nI (F (4 * k + 2)))), (4, .int (nI (F (4 * k + 1)))), (3, .int (nI 8)), (0, .int (nI k)), (1, .int (nI p)), (2, .ref fa)] rfl (by decide) dL_sign4_98 ?_
    refine v_iload C 2 rfl dL_sign4_100 ?_
    refine v_aload_n C 6 rfl dL_sign4_102 rfl ?_
    refine v_callS (rest := []) C (c_L_length3 l hl G fa (F (4 * k + 1)) M F A D T lv s h hw he hF (show F (4 * k + 1) < M by omega) (show lv (F (4 * k + 1)) ≤ 3 by omega)) S_L_64 rfl rfl (Nat.le_of_ble_eq_true rfl) ⟨Nat.le_of_ble_eq_true rfl, Nat.le_of_ble_eq_true rfl⟩ ⟨Nat.le_of_ble_eq_true rfl, Nat.le_of_ble_eq_true rfl⟩ dL_sign4_103 (fun i105 h105 q105 => ?_)
    obtain ⟨e105, rfl⟩ := q105
    rw [← hX] at e105
    subst e105
    refine v_istore C [(7, .int (nI X.length)), (6, .int 5), (5, .int (nI (F (4 * k + 2)))), (4, .int (nI (F (4 * k + 1)))), (3, .int (nI 8)), (0, .int (nI k)), (1, .int (nI p)), (2, .ref fa)] rfl (by decide) dL_sign4_106 ?_
    refine v_iload_n C 6 rfl dL_sign4_108 rfl ?_
    refine v_iload C 1 rfl dL_sign4_109 ?_
    refine v_icmp_ge (tgt := 122) C dL_sign4_111 (by decide) (fun c106 => ?_) (fun c106 => ?_)
    · have c106 := (nk_ge (a := p) 5 (by decide) (by omega) (by decide)).mp c106
      refine v_iload_n C 6 rfl dL_sign4_122 rfl ?_
      refine v_iload C 1 rfl dL_sign4_123 ?_
      refine v_iload C 0 rfl dL_sign4_125 ?_
      refine v_iadd C dL_sign4_127 (v_eqi (nI_kad X.length 5 (by decide)) ?_)
      refine v_icmp_ge (tgt := 142) C dL_sign4_128 (by decide) (fun c108 => ?_) (fun c108 => ?_)
      · have c108 := (nn_ge (a := p) (b := (5 + X.length)) (by omega) (by omega)).mp c108
        refine v_iload_n C 6 rfl dL_sign4_142 rfl ?_
        refine v_iload C 1 rfl dL_sign4_143 ?_
        refine v_isub C dL_sign4_145 (v_eqi (nI_sbk (a := p) 5 (by decide) (by omega)) ?_)
        refine v_iload C 0 rfl dL_sign4_146 ?_
        refine v_isub C dL_sign4_148 (v_eqi (pk_sub (a := (p - 5)) (b := X.length) (by omega)) ?_)
        refine v_istore C [(8, .int (nI ((p - 5) - X.length))), (7, .int (nI X.length)), (6, .int 5), (5, .int (nI (F (4 * k + 2)))), (4, .int (nI (F (4 * k + 1)))), (3, .int (nI 8)), (0, .int (nI k)), (1, .int (nI p)), (2, .ref fa)] rfl (by decide) dL_sign4_149 ?_
        refine v_iload_n C 5 rfl dL_sign4_151 rfl ?_
        refine v_iconst (v := 2) C dL_sign4_152 (by decide) ?_
        refine v_icmp_ge (tgt := 160) C dL_sign4_153 (by decide) (fun c111 => ?_) (fun c111 => absurd c111 (by decide))
        refine v_iload_n C 5 rfl dL_sign4_160 rfl ?_
        refine v_iconst (v := 4) C dL_sign4_161 (by decide) ?_
        refine v_icmp_ge (tgt := 169) C dL_sign4_162 (by decide) (fun c112 => ?_) (fun c112 => absurd c112 (by decide))
        refine v_iconst (v := 0) C dL_sign4_169 (by decide) ?_
        refine v_istore C [(9, .int 0), (8, .int (nI ((p - 5) - X.length))), (7, .int (nI X.length)), (6, .int 5), (5, .int (nI (F (4 * k + 2)))), (4, .int (nI (F (4 * k + 1)))), (3, .int (nI 8)), (0, .int (nI k)), (1, .int (nI p)), (2, .ref fa)] rfl (by decide) dL_sign4_170 ?_
        refine v_iload C 1 rfl dL_sign4_172 ?_
        refine v_iload C 0 rfl dL_sign4_174 ?_
        refine v_icmp_ge (tgt := 222) C dL_sign4_176 (by decide) (fun c113 => ?_) (fun c113 => absurd ((nk_ge_f (a := (p - 5) - X.length) 0 (by decide) (by omega) (by decide)).mp c113) (by omega))
        have c113 := (nk_ge (a := ((p - 5) - X.length)) 0 (by decide) (by omega) (by decide)).mp c113
        refine v_iload_n C 6 rfl dL_sign4_222 rfl ?_
        refine v_iconst (v := 3) C dL_sign4_223 (by decide) ?_
        refine v_icmp_gt (tgt := 241) C dL_sign4_224 (by decide) (fun c114 => ?_) (fun c114 => absurd c114 (by decide))
        refine v_bipush (v := 41) C dL_sign4_241 (by decide) ?_
        refine v_goto (tgt := 257) C dL_sign4_243 (by decide) ?_
        exact v_iret C hQ hr rfl (Nat.le_of_ble_eq_true rfl) (Nat.le_of_ble_eq_true rfl) dL_sign4_257 ⟨by rw [hTX, List.append_assoc, gd_r (show 5 ≤ p by omega)]; show _ = nI ((X ++ [41]).getD (p - 5) 0); rw [gd_r (show X.length ≤ p - 5 by omega)]; rw [show p - 5 - X.length = 0 by omega]; rfl, rfl⟩
      · have c108 := (nn_ge_f (a := p) (b := (5 + X.length)) (by omega) (by omega)).mp c108
        refine v_iload C 3 rfl dL_sign4_131 ?_
        refine v_iload_n C 6 rfl dL_sign4_133 rfl ?_
        refine v_iload C 1 rfl dL_sign4_134 ?_
        refine v_isub C dL_sign4_136 (v_eqi (nI_sbk (a := p) 5 (by decide) (by omega)) ?_)
        refine v_aload_n C 7 rfl dL_sign4_137 rfl ?_
        refine v_callS (rest := []) C (c_L_sign3 l hl G fa (F (4 * k + 1)) (p - 5) M F A D T lv s h hw he hF (show F (4 * k + 1) < M by omega) (show lv (F (4 * k + 1)) ≤ 3 by omega) (by rw [← hX]; omega)) S_L_67 rfl rfl (Nat.le_of_ble_eq_true rfl) ⟨Nat.le_of_ble_eq_true rfl, Nat.le_of_ble_eq_true rfl⟩ ⟨Nat.le_of_ble_eq_true rfl, Nat.le_of_ble_eq_true rfl⟩ dL_sign4_138 (fun i116 h116 q116 => ?_)
        obtain ⟨e116, rfl⟩ := q116
        rw [← hX] at e116
        subst e116
        exact v_iret C hQ hr rfl (Nat.le_of_ble_eq_true rfl) (Nat.le_of_ble_eq_true rfl) dL_sign4_141 ⟨by rw [hTX, List.append_assoc, gd_r (show 5 ≤ p by omega)]; show _ = nI ((X ++ [41]).getD (p - 5) 0); rw [gd_l (show p - 5 < X.length by omega)], rfl⟩
    · have c106 := (nk_ge_f (a := p) 5 (by decide) (by omega) (by decide)).mp c106
      refine v_iload_n C 4 rfl dL_sign4_114 rfl ?_
      refine v_iload C 2 rfl dL_sign4_115 ?_
      refine v_iload_n C 6 rfl dL_sign4_117 rfl ?_
      refine v_callS (rest := []) C (c_L_front_8 l hl G (F (4 * k + 2)) p h (by omega)) S_L_47 rfl rfl (Nat.le_of_ble_eq_true rfl) ⟨Nat.le_of_ble_eq_true rfl, Nat.le_of_ble_eq_true rfl⟩ ⟨Nat.le_of_ble_eq_true rfl, Nat.le_of_ble_eq_true rfl⟩ dL_sign4_118 (fun i117 h117 q117 => ?_)
      obtain ⟨e117, rfl⟩ := q117; subst e117
      exact v_iret C hQ hr rfl (Nat.le_of_ble_eq_true rfl) (Nat.le_of_ble_eq_true rfl) dL_sign4_121 ⟨by rw [hTX, List.append_assoc, gd_l (show p < 5 by omega)], rfl⟩
set_option maxHeartbeats 4000000 in
set_option maxRecDepth 100000 in
theorem c_L_sign5 (l : Launch) (hl : l.stackTraces = false) (G : zG) (fa k p M : Nat) (F : Nat → Nat) (A D : Nat → Int32) (T : Nat → List Tok) (lv : Nat → Nat) (s : ZS) (h : zH) (hw : WFs s) (he : EV s F A D T lv M) (hF : iC G h fa 60 (fN F)) (hk : k < M) (hv : lv k ≤ 5) (hp : p < (txtOf (T k)).length) : zMet eI l yL_sign5 cL_sign5 10 (some .int) 18 0 0 G [.int (nI k), .int (nI p), .ref fa] h (fun r h2 => r = nI ((txtOf (T k)).getD p 0) ∧ h = h2) := by
  refine con_of hl RL rfl (by decide +kernel) [(0, .int (nI k)), (1, .int (nI p)), (2, .ref fa)] rfl (Nat.le_of_ble_eq_true rfl) ?_
  intro zp ze zs zm zargs zbelow zmeth zc C hr hin Q hQ
  have hp441 : p < 441 := Nat.lt_of_lt_of_le hp ((he.w6 hw hk).txl6 (Nat.le_refl _))
  have hM := he.1
  have hN6 := he.2.1
  obtain ⟨l1, l6, l3, hFE⟩ := he.2.2.1 k hk
  rcases hFE with ⟨f0, f1, fT, fl⟩ | ⟨f0, f1, fT, fl⟩ | ⟨f0, f1, fT, fl⟩ | ⟨f0, f1, f2, fT, fl⟩ | ⟨f0, f1, f2, fT, fl⟩ | ⟨f0, f1, fT, fl⟩
  · have hTX := (congrArg txtOf fT).trans (tx4 f1)
    have hp2 : p < 2 := by rw [hTX] at hp; exact hp
    refine v_aload_n C 2 rfl dL_sign5_0 rfl ?_
    refine v_iconst (v := 4) C dL_sign5_1 (by decide) ?_
    refine v_iload_n C 0 rfl dL_sign5_2 rfl ?_
    refine v_imul C dL_sign5_3 (v_eqi (nI_kml k 4 (by decide)) ?_)
    refine v_iald C hF (vpin (show 4 * k < 60 by omega) (by decide)) dL_sign5_4 (v_eqi (y := nI 4) ((congrArg (fun j => nI (F j)) (nI_clamp (show 4 * k < 2 ^ 31 by omega))).trans (congrArg nI f0)) ?_)
    refine v_istore_n C [(3, .int (nI 4)), (0, .int (nI k)), (1, .int (nI p)), (2, .ref fa)] rfl (by decide) dL_sign5_5 rfl ?_
    refine v_aload_n C 3 rfl dL_sign5_6 rfl ?_
    refine v_iconst (v := 4) C dL_sign5_7 (by decide) ?_
    refine v_iload_n C 1 rfl dL_sign5_8 rfl ?_
    refine v_imul C dL_sign5_9 (v_eqi (nI_kml k 4 (by decide)) ?_)
    refine v_iconst (v := 1) C dL_sign5_10 (by decide) ?_
    refine v_iadd C dL_sign5_11 (v_eqi (nI_adk (4 * k) 1 (by decide)) ?_)
    refine v_iald C hF (vpin (show 4 * k + 1 < 60 by omega) (by decide)) dL_sign5_12 (v_eqi (y := nI (F (4 * k + 1))) (congrArg (fun j => nI (F j)) (nI_clamp (show 4 * k + 1 < 2 ^ 31 by omega))) ?_)
    refine v_istore C [(4, .int (nI (F (4 * k + 1)))), (3, .int (nI 4)), (0, .int (nI k)), (1, .int (nI p)), (2, .ref fa)] rfl (by decide) dL_sign5_13 ?_
    refine v_aload_n C 4 rfl dL_sign5_15 rfl ?_
    refine v_iconst (v := 4) C dL_sign5_16 (by decide) ?_
    refine v_iload_n C 2 rfl dL_sign5_17 rfl ?_
    refine v_imul C dL_sign5_18 (v_eqi (nI_kml k 4 (by decide)) ?_)
    refine v_iconst (v := 2) C dL_sign5_19 (by decide) ?_
    refine v_iadd C dL_sign5_20 (v_eqi (nI_adk (4 * k) 2 (by decide)) ?_)
    refine v_iald C hF (vpin (show 4 * k + 2 < 60 by omega) (by decide)) dL_sign5_21 (v_eqi (y := nI (F (4 * k + 2))) (congrArg (fun j => nI (F j)) (nI_clamp (show 4 * k + 2 < 2 ^ 31 by omega))) ?_)
    refine v_istore C [(5, .int (nI (F (4 * k + 2)))), (4, .int (nI (F (4 * k + 1)))), (3, .int (nI 4)), (0, .int (nI k)), (1, .int (nI p)), (2, .ref fa)] rfl (by decide) dL_sign5_22 ?_
    refine v_iload_n C 2 rfl dL_sign5_24 rfl ?_
    refine v_iconst (v := 4) C dL_sign5_25 (by decide) ?_
    refine v_icmp_eq (tgt := 34) C dL_sign5_26 (by decide) (fun c6 => ?_) (fun c6 => absurd c6 (by decide))
    refine v_iload_n C 3 rfl dL_sign5_34 rfl ?_
    refine v_iload_n C 4 rfl dL_sign5_35 rfl ?_
    refine v_aload_n C 5 rfl dL_sign5_36 rfl ?_
    refine v_callS (rest := []) C (c_L_sign1 l hl G fa k p M F A D T lv s h hw he hF hk (by omega) hp) S_L_44 rfl rfl (Nat.le_of_ble_eq_true rfl) ⟨Nat.le_of_ble_eq_true rfl, Nat.le_of_ble_eq_true rfl⟩ ⟨Nat.le_of_ble_eq_true rfl, Nat.le_of_ble_eq_true rfl⟩ dL_sign5_37 (fun i7 h7 q7 => ?_)
    obtain ⟨e7, rfl⟩ := q7
    subst e7
    exact v_iret C hQ hr rfl (Nat.le_of_ble_eq_true rfl) (Nat.le_of_ble_eq_true rfl) dL_sign5_40 ⟨rfl, rfl⟩
  · have hTX := (congrArg txtOf fT).trans (tx5 (F (4 * k + 1)))
    have d7 := dg_le7 f1
    have hp2 : p < sb_dg (F (4 * k + 1)) := by rw [hTX, dgl_len] at hp; exact hp
    refine v_aload_n C 2 rfl dL_sign5_0 rfl ?_
    refine v_iconst (v := 4) C dL_sign5_1 (by decide) ?_
    refine v_iload_n C 0 rfl dL_sign5_2 rfl ?_
    refine v_imul C dL_sign5_3 (v_eqi (nI_kml k 4 (by decide)) ?_)
    refine v_iald C hF (vpin (show 4 * k < 60 by omega) (by decide)) dL_sign5_4 (v_eqi (y := nI 5) ((congrArg (fun j => nI (F j)) (nI_clamp (show 4 * k < 2 ^ 31 by omega))).trans (congrArg nI f0)) ?_)
    refine v_istore_n C [(3, .int (nI 5)), (0, .int (nI k)), (1, .int (nI p)), (2, .ref fa)] rfl (by decide) dL_sign5_5 rfl ?_
    refine v_aload_n C 3 rfl dL_sign5_6 rfl ?_
    refine v_iconst (v := 4) C dL_sign5_7 (by decide) ?_
    refine v_iload_n C 1 rfl dL_sign5_8 rfl ?_
    refine v_imul C dL_sign5_9 (v_eqi (nI_kml k 4 (by decide)) ?_)
    refine v_iconst (v := 1) C dL_sign5_10 (by decide) ?_
    refine v_iadd C dL_sign5_11 (v_eqi (nI_adk (4 * k) 1 (by decide)) ?_)
    refine v_iald C hF (vpin (show 4 * k + 1 < 60 by omega) (by decide)) dL_sign5_12 (v_eqi (y := nI (F (4 * k + 1))) (congrArg (fun j => nI (F j)) (nI_clamp (show 4 * k + 1 < 2 ^ 31 by omega))) ?_)
    refine v_istore C [(4, .int (nI (F (4 * k + 1)))), (3, .int (nI 5)), (0, .int (nI k)), (1, .int (nI p)), (2, .ref fa)] rfl (by decide) dL_sign5_13 ?_
    refine v_aload_n C 4 rfl dL_sign5_15 rfl ?_
    refine v_iconst (v := 4) C dL_sign5_16 (by decide) ?_
    refine v_iload_n C 2 rfl dL_sign5_17 rfl ?_
    refine v_imul C dL_sign5_18 (v_eqi (nI_kml k 4 (by decide)) ?_)
    refine v_iconst (v := 2) C dL_sign5_19 (by decide) ?_
    refine v_iadd C dL_sign5_20 (v_eqi (nI_adk (4 * k) 2 (by decide)) ?_)
    refine v_iald C hF (vpin (show 4 * k + 2 < 60 by omega) (by decide)) dL_sign5_21 (v_eqi (y := nI (F (4 * k + 2))) (congrArg (fun j => nI (F j)) (nI_clamp (show 4 * k + 2 < 2 ^ 31 by omega))) ?_)
    refine v_istore C [(5, .int (nI (F (4 * k + 2)))), (4, .int (nI (F (4 * k + 1)))), (3, .int (nI 5)), (0, .int (nI k)), (1, .int (nI p)), (2, .ref fa)] rfl (by decide) dL_sign5_22 ?_
    refine v_iload_n C 2 rfl dL_sign5_24 rfl ?_
    refine v_iconst (v := 4) C dL_sign5_25 (by decide) ?_
    refine v_icmp_eq (tgt := 34) C dL_sign5_26 (by decide) (fun c13 => absurd c13 (by decide)) (fun c13 => ?_)
    refine v_iload_n C 2 rfl dL_sign5_29 rfl ?_
    refine v_iconst (v := 5) C dL_sign5_30 (by decide) ?_
    refine v_icmp_ne (tgt := 41) C dL_sign5_31 (by decide) (fun c14 => absurd c14 (by decide)) (fun c14 => ?_)
    refine v_iload_n C 3 rfl dL_sign5_34 rfl ?_
    refine v_iload_n C 4 rfl dL_sign5_35 rfl ?_
    refine v_aload_n C 5 rfl dL_sign5_36 rfl ?_
    refine v_callS (rest := []) C (c_L_sign1 l hl G fa k p M F A D T lv s h hw he hF hk (by omega) hp) S_L_44 rfl rfl (Nat.le_of_ble_eq_true rfl) ⟨Nat.le_of_ble_eq_true rfl, Nat.le_of_ble_eq_true rfl⟩ ⟨Nat.le_of_ble_eq_true rfl, Nat.le_of_ble_eq_true rfl⟩ dL_sign5_37 (fun i15 h15 q15 => ?_)
    obtain ⟨e15, rfl⟩ := q15
    subst e15
    exact v_iret C hQ hr rfl (Nat.le_of_ble_eq_true rfl) (Nat.le_of_ble_eq_true rfl) dL_sign5_40 ⟨rfl, rfl⟩
  · have hTX := (congrArg txtOf fT).trans (tx6 (a := F (4 * k + 1)) (by omega))
    have hp2 : p < 2 := by rw [hTX] at hp; exact hp
    refine v_aload_n C 2 rfl dL_sign5_0 rfl ?_
    refine v_iconst (v := 4) C dL_sign5_1 (by decide) ?_
    refine v_iload_n C 0 rfl dL_sign5_2 rfl ?_
    refine v_imul C dL_sign5_3 (v_eqi (nI_kml k 4 (by decide)) ?_)
    refine v_iald C hF (vpin (show 4 * k < 60 by omega) (by decide)) dL_sign5_4 (v_eqi (y := nI 6) ((congrArg (fun j => nI (F j)) (nI_clamp (show 4 * k < 2 ^ 31 by omega))).trans (congrArg nI f0)) ?_)
    refine v_istore_n C [(3, .int (nI 6)), (0, .int (nI k)), (1, .int (nI p)), (2, .ref fa)] rfl (by decide) dL_sign5_5 rfl ?_
    refine v_aload_n C 3 rfl dL_sign5_6 rfl ?_
    refine v_iconst (v := 4) C dL_sign5_7 (by decide) ?_
    refine v_iload_n C 1 rfl dL_sign5_8 rfl ?_
    refine v_imul C dL_sign5_9 (v_eqi (nI_kml k 4 (by decide)) ?_)
    refine v_iconst (v := 1) C dL_sign5_10 (by decide) ?_
    refine v_iadd C dL_sign5_11 (v_eqi (nI_adk (4 * k) 1 (by decide)) ?_)
    refine v_iald C hF (vpin (show 4 * k + 1 < 60 by omega) (by decide)) dL_sign5_12 (v_eqi (y := nI (F (4 * k + 1))) (congrArg (fun j => nI (F j)) (nI_clamp (show 4 * k + 1 < 2 ^ 31 by omega))) ?_)
    refine v_istore C [(4, .int (nI (F (4 * k + 1)))), (3, .int (nI 6)), (0, .int (nI k)), (1, .int (nI p)), (2, .ref fa)] rfl (by decide) dL_sign5_13 ?_
    refine v_aload_n C 4 rfl dL_sign5_15 rfl ?_
    refine v_iconst (v := 4) C dL_sign5_16 (by decide) ?_
    refine v_iload_n C 2 rfl dL_sign5_17 rfl ?_
    refine v_imul C dL_sign5_18 (v_eqi (nI_kml k 4 (by decide)) ?_)
    refine v_iconst (v := 2) C dL_sign5_19 (by decide) ?_
    refine v_iadd C dL_sign5_20 (v_eqi (nI_adk (4 * k) 2 (by decide)) ?_)
    refine v_iald C hF (vpin (show 4 * k + 2 < 60 by omega) (by decide)) dL_sign5_21 (v_eqi (y := nI (F (4 * k + 2))) (congrArg (fun j => nI (F j)) (nI_clamp (show 4 * k + 2 < 2 ^ 31 by omega))) ?_)
    refine v_istore C [(5, .int (nI (F (4 * k + 2)))), (4, .int (nI (F (4 * k + 1)))), (3, .int (nI 6)), (0, .int (nI k)), (1, .int (nI p)), (2, .ref fa)] rfl (by decide) dL_sign5_22 ?_
    refine v_iload_n C 2 rfl dL_sign5_24 rfl ?_
    refine v_iconst (v := 4) C dL_sign5_25 (by decide) ?_
    refine v_icmp_eq (tgt := 34) C dL_sign5_26 (by decide) (fun c21 => absurd c21 (by decide)) (fun c21 => ?_)
    refine v_iload_n C 2 rfl dL_sign5_29 rfl ?_
    refine v_iconst (v := 5) C dL_sign5_30 (by decide) ?_
    refine v_icmp_ne (tgt := 41) C dL_sign5_31 (by decide) (fun c22 => ?_) (fun c22 => absurd c22 (by decide))
    refine v_iload_n C 2 rfl dL_sign5_41 rfl ?_
    refine v_bipush (v := 6) C dL_sign5_42 (by decide) ?_
    refine v_icmp_ne (tgt := 62) C dL_sign5_44 (by decide) (fun c23 => absurd c23 (by decide)) (fun c23 => ?_)
    refine v_iload_n C 4 rfl dL_sign5_47 rfl ?_
    refine v_if_ne (tgt := 56) C dL_sign5_48 (by decide) (fun c24 => ?_) (fun c24 => ?_)
    · have c24 := (nk_ne (a := p) 0 (by decide) (by omega) (by decide)).mp c24
      refine v_bipush (v := 48) C dL_sign5_56 (by decide) ?_
      refine v_iload C 1 rfl dL_sign5_58 ?_
      refine v_iadd C dL_sign5_60 (v_eqi (nI_kad (F (4 * k + 1)) 48 (by decide)) ?_)
      exact v_iret C hQ hr rfl (Nat.le_of_ble_eq_true rfl) (Nat.le_of_ble_eq_true rfl) dL_sign5_61 ⟨by rw [hTX, show p = 1 by omega]; rfl, rfl⟩
    · have c24 := (nk_ne_f (a := p) 0 (by decide) (by omega) (by decide)).mp c24
      refine v_bipush (v := 84) C dL_sign5_51 (by decide) ?_
      refine v_goto (tgt := 61) C dL_sign5_53 (by decide) ?_
      exact v_iret C hQ hr rfl (Nat.le_of_ble_eq_true rfl) (Nat.le_of_ble_eq_true rfl) dL_sign5_61 ⟨by rw [hTX, show p = 0 by omega]; rfl, rfl⟩
  · obtain ⟨X, hX⟩ : ∃ X, X = txtOf (T (F (4 * k + 1))) := ⟨_, rfl⟩
    have xl : X.length ≤ 441 := by rw [hX]; exact (he.w6 hw (k := F (4 * k + 1)) (by omega)).txl6 (Nat.le_refl _)
    obtain ⟨Y, hY⟩ : ∃ Y, Y = txtOf (T (F (4 * k + 2))) := ⟨_, rfl⟩
    have yl : Y.length ≤ 441 := by rw [hY]; exact (he.w6 hw (k := F (4 * k + 2)) (by omega)).txl6 (Nat.le_refl _)
    have hTX : txtOf (T k) = sjt (F (4 * k)) X Y := by rw [fT, txt_join (he.w6 hw (k := F (4 * k + 1)) (by omega)) (he.w6 hw (k := F (4 * k + 2)) (by omega)) f0, hX, hY]
    have hp2 := hp; rw [hTX, sjt_ln f0] at hp2
    refine v_aload_n C 2 rfl dL_sign5_0 rfl ?_
    refine v_iconst (v := 4) C dL_sign5_1 (by decide) ?_
    refine v_iload_n C 0 rfl dL_sign5_2 rfl ?_
    refine v_imul C dL_sign5_3 (v_eqi (nI_kml k 4 (by decide)) ?_)
    refine v_iald C hF (vpin (show 4 * k < 60 by omega) (by decide)) dL_sign5_4 (v_eqi (y := nI (F (4 * k))) ((congrArg (fun j => nI (F j)) (nI_clamp (show 4 * k < 2 ^ 31 by omega))).trans (congrArg nI rfl)) ?_)
    refine v_istore_n C [(3, .int (nI (F (4 * k)))), (0, .int (nI k)), (1, .int (nI p)), (2, .ref fa)] rfl (by decide) dL_sign5_5 rfl ?_
    refine v_aload_n C 3 rfl dL_sign5_6 rfl ?_
    refine v_iconst (v := 4) C dL_sign5_7 (by decide) ?_
    refine v_iload_n C 1 rfl dL_sign5_8 rfl ?_
    refine v_imul C dL_sign5_9 (v_eqi (nI_kml k 4 (by decide)) ?_)
    refine v_iconst (v := 1) C dL_sign5_10 (by decide) ?_
    refine v_iadd C dL_sign5_11 (v_eqi (nI_adk (4 * k) 1 (by decide)) ?_)
    refine v_iald C hF (vpin (show 4 * k + 1 < 60 by omega) (by decide)) dL_sign5_12 (v_eqi (y := nI (F (4 * k + 1))) (congrArg (fun j => nI (F j)) (nI_clamp (show 4 * k + 1 < 2 ^ 31 by omega))) ?_)
    refine v_istore C [(4, .int (nI (F (4 * k + 1)))), (3, .int (nI (F (4 * k)))), (0, .int (nI k)), (1, .int (nI p)), (2, .ref fa)] rfl (by decide) dL_sign5_13 ?_
    refine v_aload_n C 4 rfl dL_sign5_15 rfl ?_
    refine v_iconst (v := 4) C dL_sign5_16 (by decide) ?_
    refine v_iload_n C 2 rfl dL_sign5_17 rfl ?_
    refine v_imul C dL_sign5_18 (v_eqi (nI_kml k 4 (by decide)) ?_)
    refine v_iconst (v := 2) C dL_sign5_19 (by decide) ?_
    refine v_iadd C dL_sign5_20 (v_eqi (nI_adk (4 * k) 2 (by decide)) ?_)
    refine v_iald C hF (vpin (show 4 * k + 2 < 60 by omega) (by decide)) dL_sign5_21 (v_eqi (y := nI (F (4 * k + 2))) (congrArg (fun j => nI (F j)) (nI_clamp (show 4 * k + 2 < 2 ^ 31 by omega))) ?_)
    refine v_istore C [(5, .int (nI (F (4 * k + 2)))), (4, .int (nI (F (4 * k + 1)))), (3, .int (nI (F (4 * k)))), (0, .int (nI k)), (1, .int (nI p)), (2, .ref fa)] rfl (by decide) dL_sign5_22 ?_
    refine v_iload_n C 2 rfl dL_sign5_24 rfl ?_
    refine v_iconst (v := 4) C dL_sign5_25 (by decide) ?_
    refine v_icmp_eq (tgt := 34) C dL_sign5_26 (by decide) (fun c31 => absurd ((nk_eq (a := F (4 * k)) 4 (by decide) (by omega) (by decide)).mp c31) (by omega)) (fun c31 => ?_)
    have c31 := (nk_eq_f (a := (F (4 * k))) 4 (by decide) (by omega) (by decide)).mp c31
    refine v_iload_n C 2 rfl dL_sign5_29 rfl ?_
    refine v_iconst (v := 5) C dL_sign5_30 (by decide) ?_
    refine v_icmp_ne (tgt := 41) C dL_sign5_31 (by decide) (fun c32 => ?_) (fun c32 => absurd ((nk_ne_f (a := F (4 * k)) 5 (by decide) (by omega) (by decide)).mp c32) (by omega))
    have c32 := (nk_ne (a := (F (4 * k))) 5 (by decide) (by omega) (by decide)).mp c32
    refine v_iload_n C 2 rfl dL_sign5_41 rfl ?_
    refine v_bipush (v := 6) C dL_sign5_42 (by decide) ?_
    refine v_icmp_ne (tgt := 62) C dL_sign5_44 (by decide) (fun c33 => ?_) (fun c33 => absurd ((nk_ne_f (a := F (4 * k)) 6 (by decide) (by omega) (by decide)).mp c33) (by omega))
    have c33 := (nk_ne (a := (F (4 * k))) 6 (by decide) (by omega) (by decide)).mp c33
    refine v_iload_n C 2 rfl dL_sign5_62 rfl ?_
    refine v_bipush (v := 7) C dL_sign5_63 (by decide) ?_
    refine v_icmp_ne (tgt := 78) C dL_sign5_65 (by decide) (fun c34 => ?_) (fun c34 => absurd ((nk_ne_f (a := F (4 * k)) 7 (by decide) (by omega) (by decide)).mp c34) (by omega))
    have c34 := (nk_ne (a := (F (4 * k))) 7 (by decide) (by omega) (by decide)).mp c34
    refine v_iload_n C 2 rfl dL_sign5_78 rfl ?_
    refine v_bipush (v := 8) C dL_sign5_79 (by decide) ?_
    refine v_icmp_ne (tgt := 88) C dL_sign5_81 (by decide) (fun c35 => ?_) (fun c35 => absurd ((nk_ne_f (a := F (4 * k)) 8 (by decide) (by omega) (by decide)).mp c35) (by omega))
    have c35 := (nk_ne (a := (F (4 * k))) 8 (by decide) (by omega) (by decide)).mp c35
    refine v_iload_n C 2 rfl dL_sign5_88 rfl ?_
    refine v_iconst (v := 2) C dL_sign5_89 (by decide) ?_
    refine v_icmp_ge (tgt := 97) C dL_sign5_90 (by decide) (fun c36 => ?_) (fun c36 => ?_)
    · have c36 := (nk_ge (a := (F (4 * k))) 2 (by decide) (by omega) (by decide)).mp c36
      rw [if_neg (show ¬ F (4 * k) < 2 by omega)] at hp2
      have hfl : (fjn (F (4 * k))).length = 4 := (fjn_len f0).trans (if_neg (by omega))
      have hml : (mjn (F (4 * k))).length = 2 := (mjn_len f0).trans (if_neg (by omega))
      refine v_iconst (v := 4) C dL_sign5_97 (by decide) ?_
      refine v_istore C [(6, .int 4), (5, .int (nI (F (4 * k + 2)))), (4, .int (nI (F (4 * k + 1)))), (3, .int (nI (F (4 * k)))), (0, .int (nI k)), (1, .int (nI p)), (2, .ref fa)] rfl (by decide) dL_sign5_98 ?_
      refine v_iload C 2 rfl dL_sign5_100 ?_
      refine v_aload_n C 6 rfl dL_sign5_102 rfl ?_
      refine v_callS (rest := []) C (c_L_length4 l hl G fa (F (4 * k + 1)) M F A D T lv s h hw he hF (show F (4 * k + 1) < M by omega) (show lv (F (4 * k + 1)) ≤ 4 by omega)) S_L_73 rfl rfl (Nat.le_of_ble_eq_true rfl) ⟨Nat.le_of_ble_eq_true rfl, Nat.le_of_ble_eq_true rfl⟩ ⟨Nat.le_of_ble_eq_true rfl, Nat.le_of_ble_eq_true rfl⟩ dL_sign5_103 (fun i37 h37 q37 => ?_)
      obtain ⟨e37, rfl⟩ := q37
      rw [← hX] at e37
      subst e37
      refine v_istore C [(7, .int (nI X.length)), (6, .int 4), (5, .int (nI (F (4 * k + 2)))), (4, .int (nI (F (4 * k + 1)))), (3, .int (nI (F (4 * k)))), (0, .int (nI k)), (1, .int (nI p)), (2, .ref fa)] rfl (by decide) dL_sign5_106 ?_
      refine v_iload_n C 6 rfl dL_sign5_108 rfl ?_
      refine v_iload C 1 rfl dL_sign5_109 ?_
      refine v_icmp_ge (tgt := 122) C dL_sign5_111 (by decide) (fun c38 => ?_) (fun c38 => ?_)
      · have c38 := (nk_ge (a := p) 4 (by decide) (by omega) (by decide)).mp c38
        refine v_iload_n C 6 rfl dL_sign5_122 rfl ?_
        refine v_iload C 1 rfl dL_sign5_123 ?_
        refine v_iload C 0 rfl dL_sign5_125 ?_
        refine v_iadd C dL_sign5_127 (v_eqi (nI_kad X.length 4 (by decide)) ?_)
        refine v_icmp_ge (tgt := 142) C dL_sign5_128 (by decide) (fun c40 => ?_) (fun c40 => ?_)
        · have c40 := (nn_ge (a := p) (b := (4 + X.length)) (by omega) (by omega)).mp c40
          refine v_iload_n C 6 rfl dL_sign5_142 rfl ?_
          refine v_iload C 1 rfl dL_sign5_143 ?_
          refine v_isub C dL_sign5_145 (v_eqi (nI_sbk (a := p) 4 (by decide) (by omega)) ?_)
          refine v_iload C 0 rfl dL_sign5_146 ?_
          refine v_isub C dL_sign5_148 (v_eqi (pk_sub (a := (p - 4)) (b := X.length) (by omega)) ?_)
          refine v_istore C [(8, .int (nI ((p - 4) - X.length))), (7, .int (nI X.length)), (6, .int 4), (5, .int (nI (F (4 * k + 2)))), (4, .int (nI (F (4 * k + 1)))), (3, .int (nI (F (4 * k)))), (0, .int (nI k)), (1, .int (nI p)), (2, .ref fa)] rfl (by decide) dL_sign5_149 ?_
          refine v_iload_n C 5 rfl dL_sign5_151 rfl ?_
          refine v_iconst (v := 2) C dL_sign5_152 (by decide) ?_
          refine v_icmp_ge (tgt := 160) C dL_sign5_153 (by decide) (fun c43 => ?_) (fun c43 => absurd ((nk_ge_f (a := F (4 * k)) 2 (by decide) (by omega) (by decide)).mp c43) (by omega))
          have c43 := (nk_ge (a := (F (4 * k))) 2 (by decide) (by omega) (by decide)).mp c43
          refine v_iload_n C 5 rfl dL_sign5_160 rfl ?_
          refine v_iconst (v := 4) C dL_sign5_161 (by decide) ?_
          refine v_icmp_ge (tgt := 169) C dL_sign5_162 (by decide) (fun c44 => absurd ((nk_ge (a := F (4 * k)) 4 (by decide) (by omega) (by decide)).mp c44) (by omega)) (fun c44 => ?_)
          have c44 := (nk_ge_f (a := (F (4 * k))) 4 (by decide) (by omega) (by decide)).mp c44
          refine v_iconst (v := 2) C dL_sign5_165 (by decide) ?_
          refine v_goto (tgt := 170) C dL_sign5_166 (by decide) ?_
          refine v_istore C [(9, .int 2), (8, .int (nI ((p - 4) - X.length))), (7, .int (nI X.length)), (6, .int 4), (5, .int (nI (F (4 * k + 2)))), (4, .int (nI (F (4 * k + 1)))), (3, .int (nI (F (4 * k)))), (0, .int (nI k)), (1, .int (nI p)), (2, .ref fa)] rfl (by decide) dL_sign5_170 ?_
          refine v_iload C 1 rfl dL_sign5_172 ?_
          refine v_iload C 0 rfl dL_sign5_174 ?_
          refine v_icmp_ge (tgt := 222) C dL_sign5_176 (by decide) (fun c45 => ?_) (fun c45 => ?_)
          · have c45 := (nk_ge (a := ((p - 4) - X.length)) 2 (by decide) (by omega) (by decide)).mp c45
            refine v_iload_n C 6 rfl dL_sign5_222 rfl ?_
            refine v_iconst (v := 3) C dL_sign5_223 (by decide) ?_
            refine v_icmp_gt (tgt := 241) C dL_sign5_224 (by decide) (fun c46 => absurd ((nk_gt (a := F (4 * k)) 3 (by decide) (by omega) (by decide)).mp c46) (by omega)) (fun c46 => ?_)
            have c46 := (nk_gt_f (a := (F (4 * k))) 3 (by decide) (by omega) (by decide)).mp c46
            refine v_iload C 1 rfl dL_sign5_227 ?_
            refine v_iload C 0 rfl dL_sign5_229 ?_
            refine v_isub C dL_sign5_231 (v_eqi (nI_sbk (a := ((p - 4) - X.length)) 2 (by decide) (by omega)) ?_)
            refine v_iload C 4 rfl dL_sign5_232 ?_
            refine v_aload_n C 9 rfl dL_sign5_234 rfl ?_
            refine v_callS (rest := [.int (nI (((p - 4) - X.length) - 2))]) C (c_L_length4 l hl G fa (F (4 * k + 2)) M F A D T lv s h hw he hF (show F (4 * k + 2) < M by omega) (show lv (F (4 * k + 2)) ≤ 4 by omega)) S_L_73 rfl rfl (Nat.le_of_ble_eq_true rfl) ⟨Nat.le_of_ble_eq_true rfl, Nat.le_of_ble_eq_true rfl⟩ ⟨Nat.le_of_ble_eq_true rfl, Nat.le_of_ble_eq_true rfl⟩ dL_sign5_235 (fun i48 h48 q48 => ?_)
            obtain ⟨e48, rfl⟩ := q48
            rw [← hY] at e48
            subst e48
            refine v_icmp_ne (tgt := 246) C dL_sign5_238 (by decide) (fun c49 => ?_) (fun c49 => ?_)
            · have c49 := (nn_ne (a := (((p - 4) - X.length) - 2)) (b := Y.length) (by omega) (by omega)).mp c49
              refine v_iload C 4 rfl dL_sign5_246 ?_
              refine v_iload C 1 rfl dL_sign5_248 ?_
              refine v_iload C 0 rfl dL_sign5_250 ?_
              refine v_isub C dL_sign5_252 (v_eqi (nI_sbk (a := ((p - 4) - X.length)) 2 (by decide) (by omega)) ?_)
              refine v_aload_n C 9 rfl dL_sign5_253 rfl ?_
              refine v_callS (rest := []) C (c_L_sign4 l hl G fa (F (4 * k + 2)) (((p - 4) - X.length) - 2) M F A D T lv s h hw he hF (show F (4 * k + 2) < M by omega) (show lv (F (4 * k + 2)) ≤ 4 by omega) (by rw [← hY]; omega)) S_L_76 rfl rfl (Nat.le_of_ble_eq_true rfl) ⟨Nat.le_of_ble_eq_true rfl, Nat.le_of_ble_eq_true rfl⟩ ⟨Nat.le_of_ble_eq_true rfl, Nat.le_of_ble_eq_true rfl⟩ dL_sign5_254 (fun i51 h51 q51 => ?_)
              obtain ⟨e51, rfl⟩ := q51
              rw [← hY] at e51
              subst e51
              exact v_iret C hQ hr rfl (Nat.le_of_ble_eq_true rfl) (Nat.le_of_ble_eq_true rfl) dL_sign5_257 ⟨by rw [hTX, sjt_4 (by omega) (by omega), hfl, hml], rfl⟩
            · have c49 := (nn_ne_f (a := (((p - 4) - X.length) - 2)) (b := Y.length) (by omega) (by omega)).mp c49
              refine v_bipush (v := 41) C dL_sign5_241 (by decide) ?_
              refine v_goto (tgt := 257) C dL_sign5_243 (by decide) ?_
              exact v_iret C hQ hr rfl (Nat.le_of_ble_eq_true rfl) (Nat.le_of_ble_eq_true rfl) dL_sign5_257 ⟨by rw [hTX, sjt_5 (by omega)]; rfl, rfl⟩
          · have c45 := (nk_ge_f (a := ((p - 4) - X.length)) 2 (by decide) (by omega) (by decide)).mp c45
            refine v_iload_n C 6 rfl dL_sign5_179 rfl ?_
            refine v_iconst (v := 1) C dL_sign5_180 (by decide) ?_
            refine v_icmp_le (tgt := 199) C dL_sign5_181 (by decide) (fun c52 => absurd ((nk_le (a := F (4 * k)) 1 (by decide) (by omega) (by decide)).mp c52) (by omega)) (fun c52 => ?_)
            have c52 := (nk_le_f (a := (F (4 * k))) 1 (by decide) (by omega) (by decide)).mp c52
            refine v_iload C 1 rfl dL_sign5_184 ?_
            refine v_if_ne (tgt := 194) C dL_sign5_186 (by decide) (fun c53 => ?_) (fun c53 => ?_)
            · have c53 := (nk_ne (a := ((p - 4) - X.length)) 0 (by decide) (by omega) (by decide)).mp c53
              refine v_bipush (v := 32) C dL_sign5_194 (by decide) ?_
              refine v_goto (tgt := 221) C dL_sign5_196 (by decide) ?_
              exact v_iret C hQ hr rfl (Nat.le_of_ble_eq_true rfl) (Nat.le_of_ble_eq_true rfl) dL_sign5_221 ⟨by rw [hTX, sjt_3 (by omega) (by omega), hfl, mj_2 (by omega), show p - 4 - X.length = 1 by omega]; rfl, rfl⟩
            · have c53 := (nk_ne_f (a := ((p - 4) - X.length)) 0 (by decide) (by omega) (by decide)).mp c53
              refine v_bipush (v := 44) C dL_sign5_189 (by decide) ?_
              refine v_goto (tgt := 221) C dL_sign5_191 (by decide) ?_
              exact v_iret C hQ hr rfl (Nat.le_of_ble_eq_true rfl) (Nat.le_of_ble_eq_true rfl) dL_sign5_221 ⟨by rw [hTX, sjt_3 (by omega) (by omega), hfl, mj_2 (by omega), show p - 4 - X.length = 0 by omega]; rfl, rfl⟩
        · have c40 := (nn_ge_f (a := p) (b := (4 + X.length)) (by omega) (by omega)).mp c40
          refine v_iload C 3 rfl dL_sign5_131 ?_
          refine v_iload_n C 6 rfl dL_sign5_133 rfl ?_
          refine v_iload C 1 rfl dL_sign5_134 ?_
          refine v_isub C dL_sign5_136 (v_eqi (nI_sbk (a := p) 4 (by decide) (by omega)) ?_)
          refine v_aload_n C 7 rfl dL_sign5_137 rfl ?_
          refine v_callS (rest := []) C (c_L_sign4 l hl G fa (F (4 * k + 1)) (p - 4) M F A D T lv s h hw he hF (show F (4 * k + 1) < M by omega) (show lv (F (4 * k + 1)) ≤ 4 by omega) (by rw [← hX]; omega)) S_L_76 rfl rfl (Nat.le_of_ble_eq_true rfl) ⟨Nat.le_of_ble_eq_true rfl, Nat.le_of_ble_eq_true rfl⟩ ⟨Nat.le_of_ble_eq_true rfl, Nat.le_of_ble_eq_true rfl⟩ dL_sign5_138 (fun i55 h55 q55 => ?_)
          obtain ⟨e55, rfl⟩ := q55
          rw [← hX] at e55
          subst e55
          exact v_iret C hQ hr rfl (Nat.le_of_ble_eq_true rfl) (Nat.le_of_ble_eq_true rfl) dL_sign5_141 ⟨by rw [hTX, sjt_2 (by omega) (by omega), hfl], rfl⟩
      · have c38 := (nk_ge_f (a := p) 4 (by decide) (by omega) (by decide)).mp c38
        refine v_iload_n C 4 rfl dL_sign5_114 rfl ?_
        refine v_iload C 2 rfl dL_sign5_115 ?_
        refine v_iload_n C 6 rfl dL_sign5_117 rfl ?_
        refine v_callS (rest := []) C (c_L_front_j l hl G (F (4 * k)) (F (4 * k + 2)) p h f0 (by omega)) S_L_47 rfl rfl (Nat.le_of_ble_eq_true rfl) ⟨Nat.le_of_ble_eq_true rfl, Nat.le_of_ble_eq_true rfl⟩ ⟨Nat.le_of_ble_eq_true rfl, Nat.le_of_ble_eq_true rfl⟩ dL_sign5_118 (fun i56 h56 q56 => ?_)
        obtain ⟨e56, rfl⟩ := q56; subst e56
        exact v_iret C hQ hr rfl (Nat.le_of_ble_eq_true rfl) (Nat.le_of_ble_eq_true rfl) dL_sign5_121 ⟨by rw [hTX, sjt_1 (by omega)], rfl⟩
    · have c36 := (nk_ge_f (a := (F (4 * k))) 2 (by decide) (by omega) (by decide)).mp c36
      rw [if_pos (show F (4 * k) < 2 by omega)] at hp2
      have hfl : (fjn (F (4 * k))).length = 1 := (fjn_len f0).trans (if_pos (by omega))
      have hml : (mjn (F (4 * k))).length = 3 := (mjn_len f0).trans (if_pos (by omega))
      refine v_iconst (v := 1) C dL_sign5_93 (by decide) ?_
      refine v_goto (tgt := 98) C dL_sign5_94 (by decide) ?_
      refine v_istore C [(6, .int 1), (5, .int (nI (F (4 * k + 2)))), (4, .int (nI (F (4 * k + 1)))), (3, .int (nI (F (4 * k)))), (0, .int (nI k)), (1, .int (nI p)), (2, .ref fa)] rfl (by decide) dL_sign5_98 ?_
      refine v_iload C 2 rfl dL_sign5_100 ?_
      refine v_aload_n C 6 rfl dL_sign5_102 rfl ?_
      refine v_callS (rest := []) C (c_L_length4 l hl G fa (F (4 * k + 1)) M F A D T lv s h hw he hF (show F (4 * k + 1) < M by omega) (show lv (F (4 * k + 1)) ≤ 4 by omega)) S_L_73 rfl rfl (Nat.le_of_ble_eq_true rfl) ⟨Nat.le_of_ble_eq_true rfl, Nat.le_of_ble_eq_true rfl⟩ ⟨Nat.le_of_ble_eq_true rfl, Nat.le_of_ble_eq_true rfl⟩ dL_sign5_103 (fun i57 h57 q57 => ?_)
      obtain ⟨e57, rfl⟩ := q57
      rw [← hX] at e57
      subst e57
      refine v_istore C [(7, .int (nI X.length)), (6, .int 1), (5, .int (nI (F (4 * k + 2)))), (4, .int (nI (F (4 * k + 1)))), (3, .int (nI (F (4 * k)))), (0, .int (nI k)), (1, .int (nI p)), (2, .ref fa)] rfl (by decide) dL_sign5_106 ?_
      refine v_iload_n C 6 rfl dL_sign5_108 rfl ?_
      refine v_iload C 1 rfl dL_sign5_109 ?_
      refine v_icmp_ge (tgt := 122) C dL_sign5_111 (by decide) (fun c58 => ?_) (fun c58 => ?_)
      · have c58 := (nk_ge (a := p) 1 (by decide) (by omega) (by decide)).mp c58
        refine v_iload_n C 6 rfl dL_sign5_122 rfl ?_
        refine v_iload C 1 rfl dL_sign5_123 ?_
        refine v_iload C 0 rfl dL_sign5_125 ?_
        refine v_iadd C dL_sign5_127 (v_eqi (nI_kad X.length 1 (by decide)) ?_)
        refine v_icmp_ge (tgt := 142) C dL_sign5_128 (by decide) (fun c60 => ?_) (fun c60 => ?_)
        · have c60 := (nn_ge (a := p) (b := (1 + X.length)) (by omega) (by omega)).mp c60
          refine v_iload_n C 6 rfl dL_sign5_142 rfl ?_
          refine v_iload C 1 rfl dL_sign5_143 ?_
          refine v_isub C dL_sign5_145 (v_eqi (nI_sbk (a := p) 1 (by decide) (by omega)) ?_)
          refine v_iload C 0 rfl dL_sign5_146 ?_
          refine v_isub C dL_sign5_148 (v_eqi (pk_sub (a := (p - 1)) (b := X.length) (by omega)) ?_)
          refine v_istore C [(8, .int (nI ((p - 1) - X.length))), (7, .int (nI X.length)), (6, .int 1), (5, .int (nI (F (4 * k + 2)))), (4, .int (nI (F (4 * k + 1)))), (3, .int (nI (F (4 * k)))), (0, .int (nI k)), (1, .int (nI p)), (2, .ref fa)] rfl (by decide) dL_sign5_149 ?_
          refine v_iload_n C 5 rfl dL_sign5_151 rfl ?_
          refine v_iconst (v := 2) C dL_sign5_152 (by decide) ?_
          refine v_icmp_ge (tgt := 160) C dL_sign5_153 (by decide) (fun c63 => absurd ((nk_ge (a := F (4 * k)) 2 (by decide) (by omega) (by decide)).mp c63) (by omega)) (fun c63 => ?_)
          have c63 := (nk_ge_f (a := (F (4 * k))) 2 (by decide) (by omega) (by decide)).mp c63
          refine v_iconst (v := 3) C dL_sign5_156 (by decide) ?_
          refine v_goto (tgt := 170) C dL_sign5_157 (by decide) ?_
          refine v_istore C [(9, .int 3), (8, .int (nI ((p - 1) - X.length))), (7, .int (nI X.length)), (6, .int 1), (5, .int (nI (F (4 * k + 2)))), (4, .int (nI (F (4 * k + 1)))), (3, .int (nI (F (4 * k)))), (0, .int (nI k)), (1, .int (nI p)), (2, .ref fa)] rfl (by decide) dL_sign5_170 ?_
          refine v_iload C 1 rfl dL_sign5_172 ?_
          refine v_iload C 0 rfl dL_sign5_174 ?_
          refine v_icmp_ge (tgt := 222) C dL_sign5_176 (by decide) (fun c64 => ?_) (fun c64 => ?_)
          · have c64 := (nk_ge (a := ((p - 1) - X.length)) 3 (by decide) (by omega) (by decide)).mp c64
            refine v_iload_n C 6 rfl dL_sign5_222 rfl ?_
            refine v_iconst (v := 3) C dL_sign5_223 (by decide) ?_
            refine v_icmp_gt (tgt := 241) C dL_sign5_224 (by decide) (fun c65 => absurd ((nk_gt (a := F (4 * k)) 3 (by decide) (by omega) (by decide)).mp c65) (by omega)) (fun c65 => ?_)
            have c65 := (nk_gt_f (a := (F (4 * k))) 3 (by decide) (by omega) (by decide)).mp c65
            refine v_iload C 1 rfl dL_sign5_227 ?_
            refine v_iload C 0 rfl dL_sign5_229 ?_
            refine v_isub C dL_sign5_231 (v_eqi (nI_sbk (a := ((p - 1) - X.length)) 3 (by decide) (by omega)) ?_)
            refine v_iload C 4 rfl dL_sign5_232 ?_
            refine v_aload_n C 9 rfl dL_sign5_234 rfl ?_
            refine v_callS (rest := [.int (nI (((p - 1) - X.length) - 3))]) C (c_L_length4 l hl G fa (F (4 * k + 2)) M F A D T lv s h hw he hF (show F (4 * k + 2) < M by omega) (show lv (F (4 * k + 2)) ≤ 4 by omega)) S_L_73 rfl rfl (Nat.le_of_ble_eq_true rfl) ⟨Nat.le_of_ble_eq_true rfl, Nat.le_of_ble_eq_true rfl⟩ ⟨Nat.le_of_ble_eq_true rfl, Nat.le_of_ble_eq_true rfl⟩ dL_sign5_235 (fun i67 h67 q67 => ?_)
            obtain ⟨e67, rfl⟩ := q67
            rw [← hY] at e67
            subst e67
            refine v_icmp_ne (tgt := 246) C dL_sign5_238 (by decide) (fun c68 => ?_) (fun c68 => ?_)
            · have c68 := (nn_ne (a := (((p - 1) - X.length) - 3)) (b := Y.length) (by omega) (by omega)).mp c68
              refine v_iload C 4 rfl dL_sign5_246 ?_
              refine v_iload C 1 rfl dL_sign5_248 ?_
              refine v_iload C 0 rfl dL_sign5_250 ?_
              refine v_isub C dL_sign5_252 (v_eqi (nI_sbk (a := ((p - 1) - X.length)) 3 (by decide) (by omega)) ?_)
              refine v_aload_n C 9 rfl dL_sign5_253 rfl ?_
              refine v_callS (rest := []) C (c_L_sign4 l hl G fa (F (4 * k + 2)) (((p - 1) - X.length) - 3) M F A D T lv s h hw he hF (show F (4 * k + 2) < M by omega) (show lv (F (4 * k + 2)) ≤ 4 by omega) (by rw [← hY]; omega)) S_L_76 rfl rfl (Nat.le_of_ble_eq_true rfl) ⟨Nat.le_of_ble_eq_true rfl, Nat.le_of_ble_eq_true rfl⟩ ⟨Nat.le_of_ble_eq_true rfl, Nat.le_of_ble_eq_true rfl⟩ dL_sign5_254 (fun i70 h70 q70 => ?_)
              obtain ⟨e70, rfl⟩ := q70
              rw [← hY] at e70
              subst e70
              exact v_iret C hQ hr rfl (Nat.le_of_ble_eq_true rfl) (Nat.le_of_ble_eq_true rfl) dL_sign5_257 ⟨by rw [hTX, sjt_4 (by omega) (by omega), hfl, hml], rfl⟩
            · have c68 := (nn_ne_f (a := (((p - 1) - X.length) - 3)) (b := Y.length) (by omega) (by omega)).mp c68
              refine v_bipush (v := 41) C dL_sign5_241 (by decide) ?_
              refine v_goto (tgt := 257) C dL_sign5_243 (by decide) ?_
              exact v_iret C hQ hr rfl (Nat.le_of_ble_eq_true rfl) (Nat.le_of_ble_eq_true rfl) dL_sign5_257 ⟨by rw [hTX, sjt_5 (by omega)]; rfl, rfl⟩
          · have c64 := (nk_ge_f (a := ((p - 1) - X.length)) 3 (by decide) (by omega) (by decide)).mp c64
            refine v_iload_n C 6 rfl dL_sign5_179 rfl ?_
            refine v_iconst (v := 1) C dL_sign5_180 (by decide) ?_
            refine v_icmp_le (tgt := 199) C dL_sign5_181 (by decide) (fun c71 => ?_) (fun c71 => absurd ((nk_le_f (a := F (4 * k)) 1 (by decide) (by omega) (by decide)).mp c71) (by omega))
            have c71 := (nk_le (a := (F (4 * k))) 1 (by decide) (by omega) (by decide)).mp c71
            refine v_iload C 1 rfl dL_sign5_199 ?_
            refine v_iconst (v := 1) C dL_sign5_201 (by decide) ?_
            refine v_icmp_eq (tgt := 210) C dL_sign5_202 (by decide) (fun c72 => ?_) (fun c72 => ?_)
            · have c72 := (nk_eq (a := ((p - 1) - X.length)) 1 (by decide) (by omega) (by decide)).mp c72
              refine v_iload_n C 6 rfl dL_sign5_210 rfl ?_
              refine v_if_ne (tgt := 219) C dL_sign5_211 (by decide) (fun c73 => ?_) (fun c73 => ?_)
              · have c73 := (nk_ne (a := (F (4 * k))) 0 (by decide) (by omega) (by decide)).mp c73
                refine v_bipush (v := 45) C dL_sign5_219 (by decide) ?_
                exact v_iret C hQ hr rfl (Nat.le_of_ble_eq_true rfl) (Nat.le_of_ble_eq_true rfl) dL_sign5_221 ⟨by rw [hTX, sjt_3 (by omega) (by omega), hfl, show p - 1 - X.length = 1 by omega, show F (4 * k) = 1 by omega]; rfl, rfl⟩
              · have c73 := (nk_ne_f (a := (F (4 * k))) 0 (by decide) (by omega) (by decide)).mp c73
                refine v_bipush (v := 43) C dL_sign5_214 (by decide) ?_
                refine v_goto (tgt := 221) C dL_sign5_216 (by decide) ?_
                exact v_iret C hQ hr rfl (Nat.le_of_ble_eq_true rfl) (Nat.le_of_ble_eq_true rfl) dL_sign5_221 ⟨by rw [hTX, sjt_3 (by omega) (by omega), hfl, show p - 1 - X.length = 1 by omega, show F (4 * k) = 0 by omega]; rfl, rfl⟩
            · have c72 := (nk_eq_f (a := ((p - 1) - X.length)) 1 (by decide) (by omega) (by decide)).mp c72
              refine v_bipush (v := 32) C dL_sign5_205 (by decide) ?_
              refine v_goto (tgt := 221) C dL_sign5_207 (by decide) ?_
              exact v_iret C hQ hr rfl (Nat.le_of_ble_eq_true rfl) (Nat.le_of_ble_eq_true rfl) dL_sign5_221 ⟨by rw [hTX, sjt_3 (by omega) (by omega), hfl, mj_b (by omega) (by omega) (by omega)]; rfl, rfl⟩
        · have c60 := (nn_ge_f (a := p) (b := (1 + X.length)) (by omega) (by omega)).mp c60
          refine v_iload C 3 rfl dL_sign5_131 ?_
          refine v_iload_n C 6 rfl dL_sign5_133 rfl ?_
          refine v_iload C 1 rfl dL_sign5_134 ?_
          refine v_isub C dL_sign5_136 (v_eqi (nI_sbk (a := p) 1 (by decide) (by omega)) ?_)
          refine v_aload_n C 7 rfl dL_sign5_137 rfl ?_
          refine v_callS (rest := []) C (c_L_sign4 l hl G fa (F (4 * k + 1)) (p - 1) M F A D T lv s h hw he hF (show F (4 * k + 1) < M by omega) (show lv (F (4 * k + 1)) ≤ 4 by omega) (by rw [← hX]; omega)) S_L_76 rfl rfl (Nat.le_of_ble_eq_true rfl) ⟨Nat.le_of_ble_eq_true rfl, Nat.le_of_ble_eq_true rfl⟩ ⟨Nat.le_of_ble_eq_true rfl, Nat.le_of_ble_eq_true rfl⟩ dL_sign5_138 (fun i75 h75 q75 => ?_)
          obtain ⟨e75, rfl⟩ := q75
          rw [← hX] at e75
          subst e75
          exact v_iret C hQ hr rfl (Nat.le_of_ble_eq_true rfl) (Nat.le_of_ble_eq_true rfl) dL_sign5_141 ⟨by rw [hTX, sjt_2 (by omega) (by omega), hfl], rfl⟩
      · have c58 := (nk_ge_f (a := p) 1 (by decide) (by omega) (by decide)).mp c58
        refine v_iload_n C 4 rfl dL_sign5_114 rfl ?_
        refine v_iload C 2 rfl dL_sign5_115 ?_
        refine v_iload_n C 6 rfl dL_sign5_117 rfl ?_
        refine v_callS (rest := []) C (c_L_front_j l hl G (F (4 * k)) (F (4 * k + 2)) p h f0 (by omega)) S_L_47 rfl rfl (Nat.le_of_ble_eq_true rfl) ⟨Nat.le_of_ble_eq_true rfl, Nat.le_of_ble_eq_true rfl⟩ ⟨Nat.le_of_ble_eq_true rfl, Nat.le_of_ble_eq_true rfl⟩ dL_sign5_118 (fun i76 h76 q76 => ?_)
        obtain ⟨e76, rfl⟩ := q76; subst e76
        exact v_iret C hQ hr rfl (Nat.le_of_ble_eq_true rfl) (Nat.le_of_ble_eq_true rfl) dL_sign5_121 ⟨by rw [hTX, sjt_1 (by omega)], rfl⟩
  · obtain ⟨X, hX⟩ : ∃ X, X = txtOf (T (F (4 * k + 1))) := ⟨_, rfl⟩
    have xl : X.length ≤ 441 := by rw [hX]; exact (he.w6 hw (k := F (4 * k + 1)) (by omega)).txl6 (Nat.le_refl _)
    have hTX : txtOf (T k) = dgl (F (4 * k + 2)) ++ [37, 32, 111, 102, 32] ++ X := by rw [fT, txt_share (he.w6 hw (k := F (4 * k + 1)) (by omega)), hX]
    have d3 := dg_le3 f2
    have hp2 : p < sb_dg (F (4 * k + 2)) + 5 + X.length := by rw [hTX] at hp; simp only [List.length_append, dgl_len, List.length_cons, List.length_nil] at hp; omega
    refine v_aload_n C 2 rfl dL_sign5_0 rfl ?_
    refine v_iconst (v := 4) C dL_sign5_1 (by decide) ?_
    refine v_iload_n C 0 rfl dL_sign5_2 rfl ?_
    refine v_imul C dL_sign5_3 (v_eqi (nI_kml k 4 (by decide)) ?_)
    refine v_iald C hF (vpin (show 4 * k < 60 by omega) (by decide)) dL_sign5_4 (v_eqi (y := nI 7) ((congrArg (fun j => nI (F j)) (nI_clamp (show 4 * k < 2 ^ 31 by omega))).trans (congrArg nI f0)) ?_)
    refine v_istore_n C [(3, .int (nI 7)), (0, .int (nI k)), (1, .int (nI p)), (2, .ref fa)] rfl (by decide) dL_sign5_5 rfl ?_
    refine v_aload_n C 3 rfl dL_sign5_6 rfl ?_
    refine v_iconst (v := 4) C dL_sign5_7 (by decide) ?_
    refine v_iload_n C 1 rfl dL_sign5_8 rfl ?_
    refine v_imul C dL_sign5_9 (v_eqi (nI_kml k 4 (by decide)) ?_)
    refine v_iconst (v := 1) C dL_sign5_10 (by decide) ?_
    refine v_iadd C dL_sign5_11 (v_eqi (nI_adk (4 * k) 1 (by decide)) ?_)
    refine v_iald C hF (vpin (show 4 * k + 1 < 60 by omega) (by decide)) dL_sign5_12 (v_eqi (y := nI (F (4 * k + 1))) (congrArg (fun j => nI (F j)) (nI_clamp (show 4 * k + 1 < 2 ^ 31 by omega))) ?_)
    refine v_istore C [(4, .int (nI (F (4 * k + 1)))), (3, .int (nI 7)), (0, .int (nI k)), (1, .int (nI p)), (2, .ref fa)] rfl (by decide) dL_sign5_13 ?_
    refine v_aload_n C 4 rfl dL_sign5_15 rfl ?_
    refine v_iconst (v := 4) C dL_sign5_16 (by decide) ?_
    refine v_iload_n C 2 rfl dL_sign5_17 rfl ?_
    refine v_imul C dL_sign5_18 (v_eqi (nI_kml k 4 (by decide)) ?_)
    refine v_iconst (v := 2) C dL_sign5_19 (by decide) ?_
    refine v_iadd C dL_sign5_20 (v_eqi (nI_adk (4 * k) 2 (by decide)) ?_)
    refine v_iald C hF (vpin (show 4 * k + 2 < 60 by omega) (by decide)) dL_sign5_21 (v_eqi (y := nI (F (4 * k + 2))) (congrArg (fun j => nI (F j)) (nI_clamp (show 4 * k + 2 < 2 ^ 31 by omega))) ?_)
    refine v_istore C [(5, .int (nI (F (4 * k + 2)))), (4, .int (nI (F (4 * k + 1)))), (3, .int (nI 7)), (0, .int (nI k)), (1, .int (nI p)), (2, .ref fa)] rfl (by decide) dL_sign5_22 ?_
    refine v_iload_n C 2 rfl dL_sign5_24 rfl ?_
    refine v_iconst (v := 4) C dL_sign5_25 (by decide) ?_
    refine v_icmp_eq (tgt := 34) C dL_sign5_26 (by decide) (fun c82 => absurd c82 (by decide)) (fun c82 => ?_)
    refine v_iload_n C 2 rfl dL_sign5_29 rfl ?_
    refine v_iconst (v := 5) C dL_sign5_30 (by decide) ?_
    refine v_icmp_ne (tgt := 41) C dL_sign5_31 (by decide) (fun c83 => ?_) (fun c83 => absurd c83 (by decide))
    refine v_iload_n C 2 rfl dL_sign5_41 rfl ?_
    refine v_bipush (v := 6) C dL_sign5_42 (by decide) ?_
    refine v_icmp_ne (tgt := 62) C dL_sign5_44 (by decide) (fun c84 => ?_) (fun c84 => absurd c84 (by decide))
    refine v_iload_n C 2 rfl dL_sign5_62 rfl ?_
    refine v_bipush (v := 7) C dL_sign5_63 (by decide) ?_
    refine v_icmp_ne (tgt := 78) C dL_sign5_65 (by decide) (fun c85 => absurd c85 (by decide)) (fun c85 => ?_)
    refine v_iload C 0 rfl dL_sign5_68 ?_
    refine v_callS (rest := []) C (c_L_digits l hl G (F (4 * k + 2)) h (by omega)) S_L_12 rfl rfl (Nat.le_of_ble_eq_true rfl) ⟨Nat.le_of_ble_eq_true rfl, Nat.le_of_ble_eq_true rfl⟩ ⟨Nat.le_of_ble_eq_true rfl, Nat.le_of_ble_eq_true rfl⟩ dL_sign5_70 (fun i86 h86 q86 => ?_)
    obtain ⟨e86, rfl⟩ := q86; subst e86
    refine v_iconst (v := 5) C dL_sign5_73 (by decide) ?_
    refine v_iadd C dL_sign5_74 (v_eqi (nI_adk (sb_dg (F (4 * k + 2))) 5 (by decide)) ?_)
    refine v_goto (tgt := 98) C dL_sign5_75 (by decide) ?_
    refine v_istore C [(6, .int (nI ((sb_dg (F (4 * k + 2))) + 5))), (5, .int (nI (F (4 * k + 2)))), (4, .int (nI (F (4 * k + 1)))), (3, .int (nI 7)), (0, .int (nI k)), (1, .int (nI p)), (2, .ref fa)] rfl (by decide) dL_sign5_98 ?_
    refine v_iload C 2 rfl dL_sign5_100 ?_
    refine v_aload_n C 6 rfl dL_sign5_102 rfl ?_
    refine v_callS (rest := []) C (c_L_length4 l hl G fa (F (4 * k + 1)) M F A D T lv s h hw he hF (show F (4 * k + 1) < M by omega) (show lv (F (4 * k + 1)) ≤ 4 by omega)) S_L_73 rfl rfl (Nat.le_of_ble_eq_true rfl) ⟨Nat.le_of_ble_eq_true rfl, Nat.le_of_ble_eq_true rfl⟩ ⟨Nat.le_of_ble_eq_true rfl, Nat.le_of_ble_eq_true rfl⟩ dL_sign5_103 (fun i88 h88 q88 => ?_)
    obtain ⟨e88, rfl⟩ := q88
    rw [← hX] at e88
    subst e88
    refine v_istore C [(7, .int (nI X.length)), (6, .int (nI ((sb_dg (F (4 * k + 2))) + 5))), (5, .int (nI (F (4 * k + 2)))), (4, .int (nI (F (4 * k + 1)))), (3, .int (nI 7)), (0, .int (nI k)), (1, .int (nI p)), (2, .ref fa)] rfl (by decide) dL_sign5_106 ?_
    refine v_iload_n C 6 rfl dL_sign5_108 rfl ?_
    refine v_iload C 1 rfl dL_sign5_109 ?_
    refine v_icmp_ge (tgt := 122) C dL_sign5_111 (by decide) (fun c89 => ?_) (fun c89 => ?_)
    · have c89 := (nn_ge (a := p) (b := ((sb_dg (F (4 * k + 2))) + 5)) (by omega) (by omega)).mp c89
      refine v_iload_n C 6 rfl dL_sign5_122 rfl ?_
      refine v_iload C 1 rfl dL_sign5_123 ?_
      refine v_iload C 0 rfl dL_sign5_125 ?_
      refine v_iadd C dL_sign5_127 (v_eqi (nI_add ((sb_dg (F (4 * k + 2))) + 5) X.length) ?_)
      refine v_icmp_ge (tgt := 142) C dL_sign5_128 (by decide) (fun c91 => absurd ((nn_ge (a := p) (b := ((sb_dg (F (4 * k + 2))) + 5) + X.length) (by omega) (by omega)).mp c91) (by omega)) (fun c91 => ?_)
      have c91 := (nn_ge_f (a := p) (b := (((sb_dg (F (4 * k + 2))) + 5) + X.length)) (by omega) (by omega)).mp c91
      refine v_iload C 3 rfl dL_sign5_131 ?_
      refine v_iload_n C 6 rfl dL_sign5_133 rfl ?_
      refine v_iload C 1 rfl dL_sign5_134 ?_
      refine v_isub C dL_sign5_136 (v_eqi (pk_sub (a := p) (b := ((sb_dg (F (4 * k + 2))) + 5)) (by omega)) ?_)
      refine v_aload_n C 7 rfl dL_sign5_137 rfl ?_
      refine v_callS (rest := []) C (c_L_sign4 l hl G fa (F (4 * k + 1)) (p - ((sb_dg (F (4 * k + 2))) + 5)) M F A D T lv s h hw he hF (show F (4 * k + 1) < M by omega) (show lv (F (4 * k + 1)) ≤ 4 by omega) (by rw [← hX]; omega)) S_L_76 rfl rfl (Nat.le_of_ble_eq_true rfl) ⟨Nat.le_of_ble_eq_true rfl, Nat.le_of_ble_eq_true rfl⟩ ⟨Nat.le_of_ble_eq_true rfl, Nat.le_of_ble_eq_true rfl⟩ dL_sign5_138 (fun i93 h93 q93 => ?_)
      obtain ⟨e93, rfl⟩ := q93
      rw [← hX] at e93
      subst e93
      exact v_iret C hQ hr rfl (Nat.le_of_ble_eq_true rfl) (Nat.le_of_ble_eq_true rfl) dL_sign5_141 ⟨by rw [hTX, gd_r (by simp only [List.length_append, dgl_len, List.length_cons, List.length_nil]; omega)]; simp only [List.length_append, dgl_len, List.length_cons, List.length_nil], rfl⟩
    · have c89 := (nn_ge_f (a := p) (b := ((sb_dg (F (4 * k + 2))) + 5)) (by omega) (by omega)).mp c89
      refine v_iload_n C 4 rfl dL_sign5_114 rfl ?_
      refine v_iload C 2 rfl dL_sign5_115 ?_
      refine v_iload_n C 6 rfl dL_sign5_117 rfl ?_
      refine v_callS (rest := []) C (c_L_front_7 l hl G (F (4 * k + 2)) p h (by omega) (by omega)) S_L_47 rfl rfl (Nat.le_of_ble_eq_true rfl) ⟨Nat.le_of_ble_eq_true rfl, Nat.le_of_ble_eq_true rfl⟩ ⟨Nat.le_of_ble_eq_true rfl, Nat.le_of_ble_eq_true rfl⟩ dL_sign5_118 (fun i94 h94 q94 => ?_)
      obtain ⟨e94, rfl⟩ := q94; subst e94
      exact v_iret C hQ hr rfl (Nat.le_of_ble_eq_true rfl) (Nat.le_of_ble_eq_true rfl) dL_sign5_121 ⟨congrArg nI ((gd_l (b := X) (show p < (dgl (F (4 * k + 2)) ++ [37, 32, 111, 102, 32]).length by simp only [List.length_append, dgl_len, List.length_cons, List.length_nil]; omega)).symm.trans (congrArg (fun z => z.getD p 0) hTX.symm)), rfl⟩
  · obtain ⟨X, hX⟩ : ∃ X, X = txtOf (T (F (4 * k + 1))) := ⟨_, rfl⟩
    have xl : X.length ≤ 441 := by rw [hX]; exact (he.w6 hw (k := F (4 * k + 1)) (by omega)).txl6 (Nat.le_refl _)
    have hTX : txtOf (T k) = [121, 101, 97, 114, 40] ++ X ++ [41] := by rw [fT, txt_year (he.w6 hw (k := F (4 * k + 1)) (by omega)), hX]
    have hp2 : p < 5 + X.length + 1 := by rw [hTX] at hp; simp only [List.length_append, List.length_cons, List.length_nil] at hp; omega
    refine v_aload_n C 2 rfl dL_sign5_0 rfl ?_
    refine v_iconst (v := 4) C dL_sign5_1 (by decide) ?_
    refine v_iload_n C 0 rfl dL_sign5_2 rfl ?_
    refine v_imul C dL_sign5_3 (v_eqi (nI_kml k 4 (by decide)) ?_)
    refine v_iald C hF (vpin (show 4 * k < 60 by omega) (by decide)) dL_sign5_4 (v_eqi (y := nI 8) ((congrArg (fun j => nI (F j)) (nI_clamp (show 4 * k < 2 ^ 31 by omega))).trans (congrArg nI f0)) ?_)
    refine v_istore_n C [(3, .int (nI 8)), (0, .int (nI k)), (1, .int (nI p)), (2, .ref fa)] rfl (by decide) dL_sign5_5 rfl ?_
    refine v_aload_n C 3 rfl dL_sign5_6 rfl ?_
    refine v_iconst (v := 4) C dL_sign5_7 (by decide) ?_
    refine v_iload_n C 1 rfl dL_sign5_8 rfl ?_
    refine v_imul C dL_sign5_9 (v_eqi (nI_kml k 4 (by decide)) ?_)
    refine v_iconst (v := 1) C dL_sign5_10 (by decide) ?_
    refine v_iadd C dL_sign5_11 (v_eqi (nI_adk (4 * k) 1 (by decide)) ?_)
    refine v_iald C hF (vpin (show 4 * k + 1 < 60 by omega) (by decide)) dL_sign5_12 (v_eqi (y := nI (F (4 * k + 1))) (congrArg (fun j => nI (F j)) (nI_clamp (show 4 * k + 1 < 2 ^ 31 by omega))) ?_)
    refine v_istore C [(4, .int (nI (F (4 * k + 1)))), (3, .int (nI 8)), (0, .int (nI k)), (1, .int (nI p)), (2, .ref fa)] rfl (by decide) dL_sign5_13 ?_
    refine v_aload_n C 4 rfl dL_sign5_15 rfl ?_
    refine v_iconst (v := 4) C dL_sign5_16 (by decide) ?_
    refine v_iload_n C 2 rfl dL_sign5_17 rfl ?_
    refine v_imul C dL_sign5_18 (v_eqi (nI_kml k 4 (by decide)) ?_)
    refine v_iconst (v := 2) C dL_sign5_19 (by decide) ?_
    refine v_iadd C dL_sign5_20 (v_eqi (nI_adk (4 * k) 2 (by decide)) ?_)
    refine v_iald C hF (vpin (show 4 * k + 2 < 60 by omega) (by decide)) dL_sign5_21 (v_eqi (y := nI (F (4 * k + 2))) (congrArg (fun j => nI (F j)) (nI_clamp (show 4 * k + 2 < 2 ^ 31 by omega))) ?_)
    refine v_istore C [(5, .int (nI (F (4 * k + 2)))), (4, .int (nI (F (4 * k + 1)))), (3, .int (nI 8)), (0, .int (nI k)), (1, .int (nI p)), (2, .ref fa)] rfl (by decide) dL_sign5_22 ?_
    refine v_iload_n C 2 rfl dL_sign5_24 rfl ?_
    refine v_iconst (v := 4) C dL_sign5_25 (by decide) ?_
    refine v_icmp_eq (tgt := 34) C dL_sign5_26 (by decide) (fun c100 => absurd c100 (by decide)) (fun c100 => ?_)
    refine v_iload_n C 2 rfl dL_sign5_29 rfl ?_
    refine v_iconst (v := 5) C dL_sign5_30 (by decide) ?_
    refine v_icmp_ne (tgt := 41) C dL_sign5_31 (by decide) (fun c101 => ?_) (fun c101 => absurd c101 (by decide))
    refine v_iload_n C 2 rfl dL_sign5_41 rfl ?_
    refine v_bipush (v := 6) C dL_sign5_42 (by decide) ?_
    refine v_icmp_ne (tgt := 62) C dL_sign5_44 (by decide) (fun c102 => ?_) (fun c102 => absurd c102 (by decide))
    refine v_iload_n C 2 rfl dL_sign5_62 rfl ?_
    refine v_bipush (v := 7) C dL_sign5_63 (by decide) ?_
    refine v_icmp_ne (tgt := 78) C dL_sign5_65 (by decide) (fun c103 => ?_) (fun c103 => absurd c103 (by decide))
    refine v_iload_n C 2 rfl dL_sign5_78 rfl ?_
    refine v_bipush (v := 8) C dL_sign5_79 (by decide) ?_
    refine v_icmp_ne (tgt := 88) C dL_sign5_81 (by decide) (fun c104 => absurd c104 (by decide)) (fun c104 => ?_)
    refine v_iconst (v := 5) C dL_sign5_84 (by decide) ?_
    refine v_goto (tgt := 98) C dL_sign5_85 (by decide) ?_
    refine v_istore C [(6, .int 5), (5, .int (nI (F (4 * k + 2)))), (4, .int (nI (F (4 * k + 1)))), (3, .int (nI 8)), (0, .int (nI k)), (1, .int (nI p)), (2, .ref fa)] rfl (by decide) dL_sign5_98 ?_
    refine v_iload C 2 rfl dL_sign5_100 ?_
    refine v_aload_n C 6 rfl dL_sign5_102 rfl ?_
    refine v_callS (rest := []) C (c_L_length4 l hl G fa (F (4 * k + 1)) M F A D T lv s h hw he hF (show F (4 * k + 1) < M by omega) (show lv (F (4 * k + 1)) ≤ 4 by omega)) S_L_73 rfl rfl (Nat.le_of_ble_eq_true rfl) ⟨Nat.le_of_ble_eq_true rfl, Nat.le_of_ble_eq_true rfl⟩ ⟨Nat.le_of_ble_eq_true rfl, Nat.le_of_ble_eq_true rfl⟩ dL_sign5_103 (fun i105 h105 q105 => ?_)
    obtain ⟨e105, rfl⟩ := q105
    rw [← hX] at e105
    subst e105
    refine v_istore C [(7, .int (nI X.length)), (6, .int 5), (5, .int (nI (F (4 * k + 2)))), (4, .int (nI (F (4 * k + 1)))), (3, .int (nI 8)), (0, .int (nI k)), (1, .int (nI p)), (2, .ref fa)] rfl (by decide) dL_sign5_106 ?_
    refine v_iload_n C 6 rfl dL_sign5_108 rfl ?_
    refine v_iload C 1 rfl dL_sign5_109 ?_
    refine v_icmp_ge (tgt := 122) C dL_sign5_111 (by decide) (fun c106 => ?_) (fun c106 => ?_)
    · have c106 := (nk_ge (a := p) 5 (by decide) (by omega) (by decide)).mp c106
      refine v_iload_n C 6 rfl dL_sign5_122 rfl ?_
      refine v_iload C 1 rfl dL_sign5_123 ?_
      refine v_iload C 0 rfl dL_sign5_125 ?_
      refine v_iadd C dL_sign5_127 (v_eqi (nI_kad X.length 5 (by decide)) ?_)
      refine v_icmp_ge (tgt := 142) C dL_sign5_128 (by decide) (fun c108 => ?_) (fun c108 => ?_)
      · have c108 := (nn_ge (a := p) (b := (5 + X.length)) (by omega) (by omega)).mp c108
        refine v_iload_n C 6 rfl dL_sign5_142 rfl ?_
        refine v_iload C 1 rfl dL_sign5_143 ?_
        refine v_isub C dL_sign5_145 (v_eqi (nI_sbk (a := p) 5 (by decide) (by omega)) ?_)
        refine v_iload C 0 rfl dL_sign5_146 ?_
        refine v_isub C dL_sign5_148 (v_eqi (pk_sub (a := (p - 5)) (b := X.length) (by omega)) ?_)
        refine v_istore C [(8, .int (nI ((p - 5) - X.length))), (7, .int (nI X.length)), (6, .int 5), (5, .int (nI (F (4 * k + 2)))), (4, .int (nI (F (4 * k + 1)))), (3, .int (nI 8)), (0, .int (nI k)), (1, .int (nI p)), (2, .ref fa)] rfl (by decide) dL_sign5_149 ?_
        refine v_iload_n C 5 rfl dL_sign5_151 rfl ?_
        refine v_iconst (v := 2) C dL_sign5_152 (by decide) ?_
        refine v_icmp_ge (tgt := 160) C dL_sign5_153 (by decide) (fun c111 => ?_) (fun c111 => absurd c111 (by decide))
        refine v_iload_n C 5 rfl dL_sign5_160 rfl ?_
        refine v_iconst (v := 4) C dL_sign5_161 (by decide) ?_
        refine v_icmp_ge (tgt := 169) C dL_sign5_162 (by decide) (fun c112 => ?_) (fun c112 => absurd c112 (by decide))
        refine v_iconst (v := 0) C dL_sign5_169 (by decide) ?_
        refine v_istore C [(9, .int 0), (8, .int (nI ((p - 5) - X.length))), (7, .int (nI X.length)), (6, .int 5), (5, .int (nI (F (4 * k + 2)))), (4, .int (nI (F (4 * k + 1)))), (3, .int (nI 8)), (0, .int (nI k)), (1, .int (nI p)), (2, .ref fa)] rfl (by decide) dL_sign5_170 ?_
        refine v_iload C 1 rfl dL_sign5_172 ?_
        refine v_iload C 0 rfl dL_sign5_174 ?_
        refine v_icmp_ge (tgt := 222) C dL_sign5_176 (by decide) (fun c113 => ?_) (fun c113 => absurd ((nk_ge_f (a := (p - 5) - X.length) 0 (by decide) (by omega) (by decide)).mp c113) (by omega))
        have c113 := (nk_ge (a := ((p - 5) - X.length)) 0 (by decide) (by omega) (by decide)).mp c113
        refine v_iload_n C 6 rfl dL_sign5_222 rfl ?_
        refine v_iconst (v := 3) C dL_sign5_223 (by decide) ?_
        refine v_icmp_gt (tgt := 241) C dL_sign5_224 (by decide) (fun c114 => ?_) (fun c114 => absurd c114 (by decide))
        refine v_bipush (v := 41) C dL_sign5_241 (by decide) ?_
        refine v_goto (tgt := 257) C dL_sign5_243 (by decide) ?_
        exact v_iret C hQ hr rfl (Nat.le_of_ble_eq_true rfl) (Nat.le_of_ble_eq_true rfl) dL_sign5_257 ⟨by rw [hTX, List.append_assoc, gd_r (show 5 ≤ p by omega)]; show _ = nI ((X ++ [41]).getD (p - 5) 0); rw [gd_r (show X.length ≤ p - 5 by omega)]; rw [show p - 5 - X.length = 0 by omega]; rfl, rfl⟩
      · have c108 := (nn_ge_f (a := p) (b := (5 + X.length)) (by omega) (by omega)).mp c108
        refine v_iload C 3 rfl dL_sign5_131 ?_
        refine v_iload_n C 6 rfl dL_sign5_133 rfl ?_
        refine v_iload C 1 rfl dL_sign5_134 ?_
        refine v_isub C dL_sign5_136 (v_eqi (nI_sbk (a := p) 5 (by decide) (by omega)) ?_)
        refine v_aload_n C 7 rfl dL_sign5_137 rfl ?_
        refine v_callS (rest := []) C (c_L_sign4 l hl G fa (F (4 * k + 1)) (p - 5) M F A D T lv s h hw he hF (show F (4 * k + 1) < M by omega) (show lv (F (4 * k + 1)) ≤ 4 by omega) (by rw [← hX]; omega)) S_L_76 rfl rfl (Nat.le_of_ble_eq_true rfl) ⟨Nat.le_of_ble_eq_true rfl, Nat.le_of_ble_eq_true rfl⟩ ⟨Nat.le_of_ble_eq_true rfl, Nat.le_of_ble_eq_true rfl⟩ dL_sign5_138 (fun i116 h116 q116 => ?_)
        obtain ⟨e116, rfl⟩ := q116
        rw [← hX] at e116
        subst e116
        exact v_iret C hQ hr rfl (Nat.le_of_ble_eq_true rfl) (Nat.le_of_ble_eq_true rfl) dL_sign5_141 ⟨by rw [hTX, List.append_assoc, gd_r (show 5 ≤ p by omega)]; show _ = nI ((X ++ [41]).getD (p - 5) 0); rw [gd_l (show p - 5 < X.length by omega)], rfl⟩
    · have c106 := (nk_ge_f (a := p) 5 (by decide) (by omega) (by decide)).mp c106
      refine v_iload_n C 4 rfl dL_sign5_114 rfl ?_
      refine v_iload C 2 rfl dL_sign5_115 ?_
      refine v_iload_n C 6 rfl dL_sign5_117 rfl ?_
      refine v_callS (rest := []) C (c_L_front_8 l hl G (F (4 * k + 2)) p h (by omega)) S_L_47 rfl rfl (Nat.le_of_ble_eq_true rfl) ⟨Nat.le_of_ble_eq_true rfl, Nat.le_of_ble_eq_true rfl⟩ ⟨Nat.le_of_ble_eq_true rfl, Nat.le_of_ble_eq_true rfl⟩ dL_sign5_118 (fun i117 h117 q117 => ?_)
      obtain ⟨e117, rfl⟩ := q117; subst e117
      exact v_iret C hQ hr rfl (Nat.le_of_ble_eq_true rfl) (Nat.le_of_ble_eq_true rfl) dL_sign5_121 ⟨by rw [hTX, List.append_assoc, gd_l (show p < 5 by omega)], rfl⟩
set_option maxHeartbeats 4000000 in
set_option maxRecDepth 100000 in
theorem c_L_sign6 (l : Launch) (hl : l.stackTraces = false) (G : zG) (fa k p M : Nat) (F : Nat → Nat) (A D : Nat → Int32) (T : Nat → List Tok) (lv : Nat → Nat) (s : ZS) (h : zH) (hw : WFs s) (he : EV s F A D T lv M) (hF : iC G h fa 60 (fN F)) (hk : k < M) (hv : lv k ≤ 6) (hp : p < (txtOf (T k)).length) : zMet eI l yL_sign6 cL_sign6 10 (some .int) 19 0 0 G [.int (nI k), .int (nI p), .ref fa] h (fun r h2 => r = nI ((txtOf (T k)).getD p 0) ∧ h = h2) := by
  refine con_of hl RL rfl (by decide +kernel) [(0, .int (nI k)), (1, .int (nI p)), (2, .ref fa)] rfl (Nat.le_of_ble_eq_true rfl) ?_
  intro zp ze zs zm zargs zbelow zmeth zc C hr hin Q hQ
  have hp441 : p < 441 := Nat.lt_of_lt_of_le hp ((he.w6 hw hk).txl6 (Nat.le_refl _))
  have hM := he.1
  have hN6 := he.2.1
  obtain ⟨l1, l6, l3, hFE⟩ := he.2.2.1 k hk
  rcases hFE with ⟨f0, f1, fT, fl⟩ | ⟨f0, f1, fT, fl⟩ | ⟨f0, f1, fT, fl⟩ | ⟨f0, f1, f2, fT, fl⟩ | ⟨f0, f1, f2, fT, fl⟩ | ⟨f0, f1, fT, fl⟩
  · have hTX := (congrArg txtOf fT).trans (tx4 f1)
    have hp2 : p < 2 := by rw [hTX] at hp; exact hp
    refine v_aload_n C 2 rfl dL_sign6_0 rfl ?_
    refine v_iconst (v := 4) C dL_sign6_1 (by decide) ?_
    refine v_iload_n C 0 rfl dL_sign6_2 rfl ?_
    refine v_imul C dL_sign6_3 (v_eqi (nI_kml k 4 (by decide)) ?_)
    refine v_iald C hF (vpin (show 4 * k < 60 by omega) (by decide)) dL_sign6_4 (v_eqi (y := nI 4) ((congrArg (fun j => nI (F j)) (nI_clamp (show 4 * k < 2 ^ 31 by omega))).trans (congrArg nI f0)) ?_)
    refine v_istore_n C [(3, .int (nI 4)), (0, .int (nI k)), (1, .int (nI p)), (2, .ref fa)] rfl (by decide) dL_sign6_5 rfl ?_
    refine v_aload_n C 3 rfl dL_sign6_6 rfl ?_
    refine v_iconst (v := 4) C dL_sign6_7 (by decide) ?_
    refine v_iload_n C 1 rfl dL_sign6_8 rfl ?_
    refine v_imul C dL_sign6_9 (v_eqi (nI_kml k 4 (by decide)) ?_)
    refine v_iconst (v := 1) C dL_sign6_10 (by decide) ?_
    refine v_iadd C dL_sign6_11 (v_eqi (nI_adk (4 * k) 1 (by decide)) ?_)
    refine v_iald C hF (vpin (show 4 * k + 1 < 60 by omega) (by decide)) dL_sign6_12 (v_eqi (y := nI (F (4 * k + 1))) (congrArg (fun j => nI (F j)) (nI_clamp (show 4 * k + 1 < 2 ^ 31 by omega))) ?_)
    refine v_istore C [(4, .int (nI (F (4 * k + 1)))), (3, .int (nI 4)), (0, .int (nI k)), (1, .int (nI p)), (2, .ref fa)] rfl (by decide) dL_sign6_13 ?_
    refine v_aload_n C 4 rfl dL_sign6_15 rfl ?_
    refine v_iconst (v := 4) C dL_sign6_16 (by decide) ?_
    refine v_iload_n C 2 rfl dL_sign6_17 rfl ?_
    refine v_imul C dL_sign6_18 (v_eqi (nI_kml k 4 (by decide)) ?_)
    refine v_iconst (v := 2) C dL_sign6_19 (by decide) ?_
    refine v_iadd C dL_sign6_20 (v_eqi (nI_adk (4 * k) 2 (by decide)) ?_)
    refine v_iald C hF (vpin (show 4 * k + 2 < 60 by omega) (by decide)) dL_sign6_21 (v_eqi (y := nI (F (4 * k + 2))) (congrArg (fun j => nI (F j)) (nI_clamp (show 4 * k + 2 < 2 ^ 31 by omega))) ?_)
    refine v_istore C [(5, .int (nI (F (4 * k + 2)))), (4, .int (nI (F (4 * k + 1)))), (3, .int (nI 4)), (0, .int (nI k)), (1, .int (nI p)), (2, .ref fa)] rfl (by decide) dL_sign6_22 ?_
    refine v_iload_n C 2 rfl dL_sign6_24 rfl ?_
    refine v_iconst (v := 4) C dL_sign6_25 (by decide) ?_
    refine v_icmp_eq (tgt := 34) C dL_sign6_26 (by decide) (fun c6 => ?_) (fun c6 => absurd c6 (by decide))
    refine v_iload_n C 3 rfl dL_sign6_34 rfl ?_
    refine v_iload_n C 4 rfl dL_sign6_35 rfl ?_
    refine v_aload_n C 5 rfl dL_sign6_36 rfl ?_
    refine v_callS (rest := []) C (c_L_sign1 l hl G fa k p M F A D T lv s h hw he hF hk (by omega) hp) S_L_44 rfl rfl (Nat.le_of_ble_eq_true rfl) ⟨Nat.le_of_ble_eq_true rfl, Nat.le_of_ble_eq_true rfl⟩ ⟨Nat.le_of_ble_eq_true rfl, Nat.le_of_ble_eq_true rfl⟩ dL_sign6_37 (fun i7 h7 q7 => ?_)
    obtain ⟨e7, rfl⟩ := q7
    subst e7
    exact v_iret C hQ hr rfl (Nat.le_of_ble_eq_true rfl) (Nat.le_of_ble_eq_true rfl) dL_sign6_40 ⟨rfl, rfl⟩
  · have hTX := (congrArg txtOf fT).trans (tx5 (F (4 * k + 1)))
    have d7 := dg_le7 f1
    have hp2 : p < sb_dg (F (4 * k + 1)) := by rw [hTX, dgl_len] at hp; exact hp
    refine v_aload_n C 2 rfl dL_sign6_0 rfl ?_
    refine v_iconst (v := 4) C dL_sign6_1 (by decide) ?_
    refine v_iload_n C 0 rfl dL_sign6_2 rfl ?_
    refine v_imul C dL_sign6_3 (v_eqi (nI_kml k 4 (by decide)) ?_)
    refine v_iald C hF (vpin (show 4 * k < 60 by omega) (by decide)) dL_sign6_4 (v_eqi (y := nI 5) ((congrArg (fun j => nI (F j)) (nI_clamp (show 4 * k < 2 ^ 31 by omega))).trans (congrArg nI f0)) ?_)
    refine v_istore_n C [(3, .int (nI 5)), (0, .int (nI k)), (1, .int (nI p)), (2, .ref fa)] rfl (by decide) dL_sign6_5 rfl ?_
    refine v_aload_n C 3 rfl dL_sign6_6 rfl ?_
    refine v_iconst (v := 4) C dL_sign6_7 (by decide) ?_
    refine v_iload_n C 1 rfl dL_sign6_8 rfl ?_
    refine v_imul C dL_sign6_9 (v_eqi (nI_kml k 4 (by decide)) ?_)
    refine v_iconst (v := 1) C dL_sign6_10 (by decide) ?_
    refine v_iadd C dL_sign6_11 (v_eqi (nI_adk (4 * k) 1 (by decide)) ?_)
    refine v_iald C hF (vpin (show 4 * k + 1 < 60 by omega) (by decide)) dL_sign6_12 (v_eqi (y := nI (F (4 * k + 1))) (congrArg (fun j => nI (F j)) (nI_clamp (show 4 * k + 1 < 2 ^ 31 by omega))) ?_)
    refine v_istore C [(4, .int (nI (F (4 * k + 1)))), (3, .int (nI 5)), (0, .int (nI k)), (1, .int (nI p)), (2, .ref fa)] rfl (by decide) dL_sign6_13 ?_
    refine v_aload_n C 4 rfl dL_sign6_15 rfl ?_
    refine v_iconst (v := 4) C dL_sign6_16 (by decide) ?_
    refine v_iload_n C 2 rfl dL_sign6_17 rfl ?_
    refine v_imul C dL_sign6_18 (v_eqi (nI_kml k 4 (by decide)) ?_)
    refine v_iconst (v := 2) C dL_sign6_19 (by decide) ?_
    refine v_iadd C dL_sign6_20 (v_eqi (nI_adk (4 * k) 2 (by decide)) ?_)
    refine v_iald C hF (vpin (show 4 * k + 2 < 60 by omega) (by decide)) dL_sign6_21 (v_eqi (y := nI (F (4 * k + 2))) (congrArg (fun j => nI (F j)) (nI_clamp (show 4 * k + 2 < 2 ^ 31 by omega))) ?_)
    refine v_istore C [(5, .int (nI (F (4 * k + 2)))), (4, .int (nI (F (4 * k + 1)))), (3, .int (nI 5)), (0, .int (nI k)), (1, .int (nI p)), (2, .ref fa)] rfl (by decide) dL_sign6_22 ?_
    refine v_iload_n C 2 rfl dL_sign6_24 rfl ?_
    refine v_iconst (v := 4) C dL_sign6_25 (by decide) ?_
    refine v_icmp_eq (tgt := 34) C dL_sign6_26 (by decide) (fun c13 => absurd c13 (by decide)) (fun c13 => ?_)
    refine v_iload_n C 2 rfl dL_sign6_29 rfl ?_
    refine v_iconst (v := 5) C dL_sign6_30 (by decide) ?_
    refine v_icmp_ne (tgt := 41) C dL_sign6_31 (by decide) (fun c14 => absurd c14 (by decide)) (fun c14 => ?_)
    refine v_iload_n C 3 rfl dL_sign6_34 rfl ?_
    refine v_iload_n C 4 rfl dL_sign6_35 rfl ?_
    refine v_aload_n C 5 rfl dL_sign6_36 rfl ?_
    refine v_callS (rest := []) C (c_L_sign1 l hl G fa k p M F A D T lv s h hw he hF hk (by omega) hp) S_L_44 rfl rfl (Nat.le_of_ble_eq_true rfl) ⟨Nat.le_of_ble_eq_true rfl, Nat.le_of_ble_eq_true rfl⟩ ⟨Nat.le_of_ble_eq_true rfl, Nat.le_of_ble_eq_true rfl⟩ dL_sign6_37 (fun i15 h15 q15 => ?_)
    obtain ⟨e15, rfl⟩ := q15
    subst e15
    exact v_iret C hQ hr rfl (Nat.le_of_ble_eq_true rfl) (Nat.le_of_ble_eq_true rfl) dL_sign6_40 ⟨rfl, rfl⟩
  · have hTX := (congrArg txtOf fT).trans (tx6 (a := F (4 * k + 1)) (by omega))
    have hp2 : p < 2 := by rw [hTX] at hp; exact hp
    refine v_aload_n C 2 rfl dL_sign6_0 rfl ?_
    refine v_iconst (v := 4) C dL_sign6_1 (by decide) ?_
    refine v_iload_n C 0 rfl dL_sign6_2 rfl ?_
    refine v_imul C dL_sign6_3 (v_eqi (nI_kml k 4 (by decide)) ?_)
    refine v_iald C hF (vpin (show 4 * k < 60 by omega) (by decide)) dL_sign6_4 (v_eqi (y := nI 6) ((congrArg (fun j => nI (F j)) (nI_clamp (show 4 * k < 2 ^ 31 by omega))).trans (congrArg nI f0)) ?_)
    refine v_istore_n C [(3, .int (nI 6)), (0, .int (nI k)), (1, .int (nI p)), (2, .ref fa)] rfl (by decide) dL_sign6_5 rfl ?_
    refine v_aload_n C 3 rfl dL_sign6_6 rfl ?_
    refine v_iconst (v := 4) C dL_sign6_7 (by decide) ?_
    refine v_iload_n C 1 rfl dL_sign6_8 rfl ?_
    refine v_imul C dL_sign6_9 (v_eqi (nI_kml k 4 (by decide)) ?_)
    refine v_iconst (v := 1) C dL_sign6_10 (by decide) ?_
    refine v_iadd C dL_sign6_11 (v_eqi (nI_adk (4 * k) 1 (by decide)) ?_)
    refine v_iald C hF (vpin (show 4 * k + 1 < 60 by omega) (by decide)) dL_sign6_12 (v_eqi (y := nI (F (4 * k + 1))) (congrArg (fun j => nI (F j)) (nI_clamp (show 4 * k + 1 < 2 ^ 31 by omega))) ?_)
    refine v_istore C [(4, .int (nI (F (4 * k + 1)))), (3, .int (nI 6)), (0, .int (nI k)), (1, .int (nI p)), (2, .ref fa)] rfl (by decide) dL_sign6_13 ?_
    refine v_aload_n C 4 rfl dL_sign6_15 rfl ?_
    refine v_iconst (v := 4) C dL_sign6_16 (by decide) ?_
    refine v_iload_n C 2 rfl dL_sign6_17 rfl ?_
    refine v_imul C dL_sign6_18 (v_eqi (nI_kml k 4 (by decide)) ?_)
    refine v_iconst (v := 2) C dL_sign6_19 (by decide) ?_
    refine v_iadd C dL_sign6_20 (v_eqi (nI_adk (4 * k) 2 (by decide)) ?_)
    refine v_iald C hF (vpin (show 4 * k + 2 < 60 by omega) (by decide)) dL_sign6_21 (v_eqi (y := nI (F (4 * k + 2))) (congrArg (fun j => nI (F j)) (nI_clamp (show 4 * k + 2 < 2 ^ 31 by omega))) ?_)
    refine v_istore C [(5, .int (nI (F (4 * k + 2)))), (4, .int (nI (F (4 * k + 1)))), (3, .int (nI 6)), (0, .int (nI k)), (1, .int (nI p)), (2, .ref fa)] rfl (by decide) dL_sign6_22 ?_
    refine v_iload_n C 2 rfl dL_sign6_24 rfl ?_
    refine v_iconst (v := 4) C dL_sign6_25 (by decide) ?_
    refine v_icmp_eq (tgt := 34) C dL_sign6_26 (by decide) (fun c21 => absurd c21 (by decide)) (fun c21 => ?_)
    refine v_iload_n C 2 rfl dL_sign6_29 rfl ?_
    refine v_iconst (v := 5) C dL_sign6_30 (by decide) ?_
    refine v_icmp_ne (tgt := 41) C dL_sign6_31 (by decide) (fun c22 => ?_) (fun c22 => absurd c22 (by decide))
    refine v_iload_n C 2 rfl dL_sign6_41 rfl ?_
    refine v_bipush (v := 6) C dL_sign6_42 (by decide) ?_
    refine v_icmp_ne (tgt := 62) C dL_sign6_44 (by decide) (fun c23 => absurd c23 (by decide)) (fun c23 => ?_)
    refine v_iload_n C 4 rfl dL_sign6_47 rfl ?_
    refine v_if_ne (tgt := 56) C dL_sign6_48 (by decide) (fun c24 => ?_) (fun c24 => ?_)
    · have c24 := (nk_ne (a := p) 0 (by decide) (by omega) (by decide)).mp c24
      refine v_bipush (v := 48) C dL_sign6_56 (by decide) ?_
      refine v_iload C 1 rfl dL_sign6_58 ?_
      refine v_iadd C dL_sign6_60 (v_eqi (nI_kad (F (4 * k + 1)) 48 (by decide)) ?_)
      exact v_iret C hQ hr rfl (Nat.le_of_ble_eq_true rfl) (Nat.le_of_ble_eq_true rfl) dL_sign6_61 ⟨by rw [hTX, show p = 1 by omega]; rfl, rfl⟩
    · have c24 := (nk_ne_f (a := p) 0 (by decide) (by omega) (by decide)).mp c24
      refine v_bipush (v := 84) C dL_sign6_51 (by decide) ?_
      refine v_goto (tgt := 61) C dL_sign6_53 (by decide) ?_
      exact v_iret C hQ hr rfl (Nat.le_of_ble_eq_true rfl) (Nat.le_of_ble_eq_true rfl) dL_sign6_61 ⟨by rw [hTX, show p = 0 by omega]; rfl, rfl⟩
  · obtain ⟨X, hX⟩ : ∃ X, X = txtOf (T (F (4 * k + 1))) := ⟨_, rfl⟩
    have xl : X.length ≤ 441 := by rw [hX]; exact (he.w6 hw (k := F (4 * k + 1)) (by omega)).txl6 (Nat.le_refl _)
    obtain ⟨Y, hY⟩ : ∃ Y, Y = txtOf (T (F (4 * k + 2))) := ⟨_, rfl⟩
    have yl : Y.length ≤ 441 := by rw [hY]; exact (he.w6 hw (k := F (4 * k + 2)) (by omega)).txl6 (Nat.le_refl _)
    have hTX : txtOf (T k) = sjt (F (4 * k)) X Y := by rw [fT, txt_join (he.w6 hw (k := F (4 * k + 1)) (by omega)) (he.w6 hw (k := F (4 * k + 2)) (by omega)) f0, hX, hY]
    have hp2 := hp; rw [hTX, sjt_ln f0] at hp2
    refine v_aload_n C 2 rfl dL_sign6_0 rfl ?_
    refine v_iconst (v := 4) C dL_sign6_1 (by decide) ?_
    refine v_iload_n C 0 rfl dL_sign6_2 rfl ?_
    refine v_imul C dL_sign6_3 (v_eqi (nI_kml k 4 (by decide)) ?_)
    refine v_iald C hF (vpin (show 4 * k < 60 by omega) (by decide)) dL_sign6_4 (v_eqi (y := nI (F (4 * k))) ((congrArg (fun j => nI (F j)) (nI_clamp (show 4 * k < 2 ^ 31 by omega))).trans (congrArg nI rfl)) ?_)
    refine v_istore_n C [(3, .int (nI (F (4 * k)))), (0, .int (nI k)), (1, .int (nI p)), (2, .ref fa)] rfl (by decide) dL_sign6_5 rfl ?_
    refine v_aload_n C 3 rfl dL_sign6_6 rfl ?_
    refine v_iconst (v := 4) C dL_sign6_7 (by decide) ?_
    refine v_iload_n C 1 rfl dL_sign6_8 rfl ?_
    refine v_imul C dL_sign6_9 (v_eqi (nI_kml k 4 (by decide)) ?_)
    refine v_iconst (v := 1) C dL_sign6_10 (by decide) ?_
    refine v_iadd C dL_sign6_11 (v_eqi (nI_adk (4 * k) 1 (by decide)) ?_)
    refine v_iald C hF (vpin (show 4 * k + 1 < 60 by omega) (by decide)) dL_sign6_12 (v_eqi (y := nI (F (4 * k + 1))) (congrArg (fun j => nI (F j)) (nI_clamp (show 4 * k + 1 < 2 ^ 31 by omega))) ?_)
    refine v_istore C [(4, .int (nI (F (4 * k + 1)))), (3, .int (nI (F (4 * k)))), (0, .int (nI k)), (1, .int (nI p)), (2, .ref fa)] rfl (by decide) dL_sign6_13 ?_
    refine v_aload_n C 4 rfl dL_sign6_15 rfl ?_
    refine v_iconst (v := 4) C dL_sign6_16 (by decide) ?_
    refine v_iload_n C 2 rfl dL_sign6_17 rfl ?_
    refine v_imul C dL_sign6_18 (v_eqi (nI_kml k 4 (by decide)) ?_)
    refine v_iconst (v := 2) C dL_sign6_19 (by decide) ?_
    refine v_iadd C dL_sign6_20 (v_eqi (nI_adk (4 * k) 2 (by decide)) ?_)
    refine v_iald C hF (vpin (show 4 * k + 2 < 60 by omega) (by decide)) dL_sign6_21 (v_eqi (y := nI (F (4 * k + 2))) (congrArg (fun j => nI (F j)) (nI_clamp (show 4 * k + 2 < 2 ^ 31 by omega))) ?_)
    refine v_istore C [(5, .int (nI (F (4 * k + 2)))), (4, .int (nI (F (4 * k + 1)))), (3, .int (nI (F (4 * k)))), (0, .int (nI k)), (1, .int (nI p)), (2, .ref fa)] rfl (by decide) dL_sign6_22 ?_
    refine v_iload_n C 2 rfl dL_sign6_24 rfl ?_
    refine v_iconst (v := 4) C dL_sign6_25 (by decide) ?_
    refine v_icmp_eq (tgt := 34) C dL_sign6_26 (by decide) (fun c31 => absurd ((nk_eq (a := F (4 * k)) 4 (by decide) (by omega) (by decide)).mp c31) (by omega)) (fun c31 => ?_)
    have c31 := (nk_eq_f (a := (F (4 * k))) 4 (by decide) (by omega) (by decide)).mp c31
    refine v_iload_n C 2 rfl dL_sign6_29 rfl ?_
    refine v_iconst (v := 5) C dL_sign6_30 (by decide) ?_
    refine v_icmp_ne (tgt := 41) C dL_sign6_31 (by decide) (fun c32 => ?_) (fun c32 => absurd ((nk_ne_f (a := F (4 * k)) 5 (by decide) (by omega) (by decide)).mp c32) (by omega))
    have c32 := (nk_ne (a := (F (4 * k))) 5 (by decide) (by omega) (by decide)).mp c32
    refine v_iload_n C 2 rfl dL_sign6_41 rfl ?_
    refine v_bipush (v := 6) C dL_sign6_42 (by decide) ?_
    refine v_icmp_ne (tgt := 62) C dL_sign6_44 (by decide) (fun c33 => ?_) (fun c33 => absurd ((nk_ne_f (a := F (4 * k)) 6 (by decide) (by omega) (by decide)).mp c33) (by omega))
    have c33 := (nk_ne (a := (F (4 * k))) 6 (by decide) (by omega) (by decide)).mp c33
    refine v_iload_n C 2 rfl dL_sign6_62 rfl ?_
    refine v_bipush (v := 7) C dL_sign6_63 (by decide) ?_
    refine v_icmp_ne (tgt := 78) C dL_sign6_65 (by decide) (fun c34 => ?_) (fun c34 => absurd ((nk_ne_f (a := F (4 * k)) 7 (by decide) (by omega) (by decide)).mp c34) (by omega))
    have c34 := (nk_ne (a := (F (4 * k))) 7 (by decide) (by omega) (by decide)).mp c34
    refine v_iload_n C 2 rfl dL_sign6_78 rfl ?_
    refine v_bipush (v := 8) C dL_sign6_79 (by decide) ?_
    refine v_icmp_ne (tgt := 88) C dL_sign6_81 (by decide) (fun c35 => ?_) (fun c35 => absurd ((nk_ne_f (a := F (4 * k)) 8 (by decide) (by omega) (by decide)).mp c35) (by omega))
    have c35 := (nk_ne (a := (F (4 * k))) 8 (by decide) (by omega) (by decide)).mp c35
    refine v_iload_n C 2 rfl dL_sign6_88 rfl ?_
    refine v_iconst (v := 2) C dL_sign6_89 (by decide) ?_
    refine v_icmp_ge (tgt := 97) C dL_sign6_90 (by decide) (fun c36 => ?_) (fun c36 => ?_)
    · have c36 := (nk_ge (a := (F (4 * k))) 2 (by decide) (by omega) (by decide)).mp c36
      rw [if_neg (show ¬ F (4 * k) < 2 by omega)] at hp2
      have hfl : (fjn (F (4 * k))).length = 4 := (fjn_len f0).trans (if_neg (by omega))
      have hml : (mjn (F (4 * k))).length = 2 := (mjn_len f0).trans (if_neg (by omega))
      refine v_iconst (v := 4) C dL_sign6_97 (by decide) ?_
      refine v_istore C [(6, .int 4), (5, .int (nI (F (4 * k + 2)))), (4, .int (nI (F (4 * k + 1)))), (3, .int (nI (F (4 * k)))), (0, .int (nI k)), (1, .int (nI p)), (2, .ref fa)] rfl (by decide) dL_sign6_98 ?_
      refine v_iload C 2 rfl dL_sign6_100 ?_
      refine v_aload_n C 6 rfl dL_sign6_102 rfl ?_
      refine v_callS (rest := []) C (c_L_length5 l hl G fa (F (4 * k + 1)) M F A D T lv s h hw he hF (show F (4 * k + 1) < M by omega) (show lv (F (4 * k + 1)) ≤ 5 by omega)) S_L_82 rfl rfl (Nat.le_of_ble_eq_true rfl) ⟨Nat.le_of_ble_eq_true rfl, Nat.le_of_ble_eq_true rfl⟩ ⟨Nat.le_of_ble_eq_true rfl, Nat.le_of_ble_eq_true rfl⟩ dL_sign6_103 (fun i37 h37 q37 => ?_)
      obtain ⟨e37, rfl⟩ := q37
      rw [← hX] at e37
      subst e37
      refine v_istore C [(7, .int (nI X.length)), (6, .int 4), (5, .int (nI (F (4 * k + 2)))), (4, .int (nI (F (4 * k + 1)))), (3, .int (nI (F (4 * k)))), (0, .int (nI k)), (1, .int (nI p)), (2, .ref fa)] rfl (by decide) dL_sign6_106 ?_
      refine v_iload_n C 6 rfl dL_sign6_108 rfl ?_
      refine v_iload C 1 rfl dL_sign6_109 ?_
      refine v_icmp_ge (tgt := 122) C dL_sign6_111 (by decide) (fun c38 => ?_) (fun c38 => ?_)
      · have c38 := (nk_ge (a := p) 4 (by decide) (by omega) (by decide)).mp c38
        refine v_iload_n C 6 rfl dL_sign6_122 rfl ?_
        refine v_iload C 1 rfl dL_sign6_123 ?_
        refine v_iload C 0 rfl dL_sign6_125 ?_
        refine v_iadd C dL_sign6_127 (v_eqi (nI_kad X.length 4 (by decide)) ?_)
        refine v_icmp_ge (tgt := 142) C dL_sign6_128 (by decide) (fun c40 => ?_) (fun c40 => ?_)
        · have c40 := (nn_ge (a := p) (b := (4 + X.length)) (by omega) (by omega)).mp c40
          refine v_iload_n C 6 rfl dL_sign6_142 rfl ?_
          refine v_iload C 1 rfl dL_sign6_143 ?_
          refine v_isub C dL_sign6_145 (v_eqi (nI_sbk (a := p) 4 (by decide) (by omega)) ?_)
          refine v_iload C 0 rfl dL_sign6_146 ?_
          refine v_isub C dL_sign6_148 (v_eqi (pk_sub (a := (p - 4)) (b := X.length) (by omega)) ?_)
          refine v_istore C [(8, .int (nI ((p - 4) - X.length))), (7, .int (nI X.length)), (6, .int 4), (5, .int (nI (F (4 * k + 2)))), (4, .int (nI (F (4 * k + 1)))), (3, .int (nI (F (4 * k)))), (0, .int (nI k)), (1, .int (nI p)), (2, .ref fa)] rfl (by decide) dL_sign6_149 ?_
          refine v_iload_n C 5 rfl dL_sign6_151 rfl ?_
          refine v_iconst (v := 2) C dL_sign6_152 (by decide) ?_
          refine v_icmp_ge (tgt := 160) C dL_sign6_153 (by decide) (fun c43 => ?_) (fun c43 => absurd ((nk_ge_f (a := F (4 * k)) 2 (by decide) (by omega) (by decide)).mp c43) (by omega))
          have c43 := (nk_ge (a := (F (4 * k))) 2 (by decide) (by omega) (by decide)).mp c43
          refine v_iload_n C 5 rfl dL_sign6_160 rfl ?_
          refine v_iconst (v := 4) C dL_sign6_161 (by decide) ?_
          refine v_icmp_ge (tgt := 169) C dL_sign6_162 (by decide) (fun c44 => absurd ((nk_ge (a := F (4 * k)) 4 (by decide) (by omega) (by decide)).mp c44) (by omega)) (fun c44 => ?_)
          have c44 := (nk_ge_f (a := (F (4 * k))) 4 (by decide) (by omega) (by decide)).mp c44
          refine v_iconst (v := 2) C dL_sign6_165 (by decide) ?_
          refine v_goto (tgt := 170) C dL_sign6_166 (by decide) ?_
          refine v_istore C [(9, .int 2), (8, .int (nI ((p - 4) - X.length))), (7, .int (nI X.length)), (6, .int 4), (5, .int (nI (F (4 * k + 2)))), (4, .int (nI (F (4 * k + 1)))), (3, .int (nI (F (4 * k)))), (0, .int (nI k)), (1, .int (nI p)), (2, .ref fa)] rfl (by decide) dL_sign6_170 ?_
          refine v_iload C 1 rfl dL_sign6_172 ?_
          refine v_iload C 0 rfl dL_sign6_174 ?_
          refine v_icmp_ge (tgt := 222) C dL_sign6_176 (by decide) (fun c45 => ?_) (fun c45 => ?_)
          · have c45 := (nk_ge (a := ((p - 4) - X.length)) 2 (by decide) (by omega) (by decide)).mp c45
            refine v_iload_n C 6 rfl dL_sign6_222 rfl ?_
            refine v_iconst (v := 3) C dL_sign6_223 (by decide) ?_
            refine v_icmp_gt (tgt := 241) C dL_sign6_224 (by decide) (fun c46 => absurd ((nk_gt (a := F (4 * k)) 3 (by decide) (by omega) (by decide)).mp c46) (by omega)) (fun c46 => ?_)
            have c46 := (nk_gt_f (a := (F (4 * k))) 3 (by decide) (by omega) (by decide)).mp c46
            refine v_iload C 1 rfl dL_sign6_227 ?_
            refine v_iload C 0 rfl dL_sign6_229 ?_
            refine v_isub C dL_sign6_231 (v_eqi (nI_sbk (a := ((p - 4) - X.length)) 2 (by decide) (by omega)) ?_)
            refine v_iload C 4 rfl dL_sign6_232 ?_
            refine v_aload_n C 9 rfl dL_sign6_234 rfl ?_
            refine v_callS (rest := [.int (nI (((p - 4) - X.length) - 2))]) C (c_L_length5 l hl G fa (F (4 * k + 2)) M F A D T lv s h hw he hF (show F (4 * k + 2) < M by omega) (show lv (F (4 * k + 2)) ≤ 5 by omega)) S_L_82 rfl rfl (Nat.le_of_ble_eq_true rfl) ⟨Nat.le_of_ble_eq_true rfl, Nat.le_of_ble_eq_true rfl⟩ ⟨Nat.le_of_ble_eq_true rfl, Nat.le_of_ble_eq_true rfl⟩ dL_sign6_235 (fun i48 h48 q48 => ?_)
            obtain ⟨e48, rfl⟩ := q48
            rw [← hY] at e48
            subst e48
            refine v_icmp_ne (tgt := 246) C dL_sign6_238 (by decide) (fun c49 => ?_) (fun c49 => ?_)
            · have c49 := (nn_ne (a := (((p - 4) - X.length) - 2)) (b := Y.length) (by omega) (by omega)).mp c49
              refine v_iload C 4 rfl dL_sign6_246 ?_
              refine v_iload C 1 rfl dL_sign6_248 ?_
              refine v_iload C 0 rfl dL_sign6_250 ?_
              refine v_isub C dL_sign6_252 (v_eqi (nI_sbk (a := ((p - 4) - X.length)) 2 (by decide) (by omega)) ?_)
              refine v_aload_n C 9 rfl dL_sign6_253 rfl ?_
              refine v_callS (rest := []) C (c_L_sign5 l hl G fa (F (4 * k + 2)) (((p - 4) - X.length) - 2) M F A D T lv s h hw he hF (show F (4 * k + 2) < M by omega) (show lv (F (4 * k + 2)) ≤ 5 by omega) (by rw [← hY]; omega)) S_L_85 rfl rfl (Nat.le_of_ble_eq_true rfl) ⟨Nat.le_of_ble_eq_true rfl, Nat.le_of_ble_eq_true rfl⟩ ⟨Nat.le_of_ble_eq_true rfl, Nat.le_of_ble_eq_true rfl⟩ dL_sign6_254 (fun i51 h51 q51 => ?_)
              obtain ⟨e51, rfl⟩ := q51
              rw [← hY] at e51
              subst e51
              exact v_iret C hQ hr rfl (Nat.le_of_ble_eq_true rfl) (Nat.le_of_ble_eq_true rfl) dL_sign6_257 ⟨by rw [hTX, sjt_4 (by omega) (by omega), hfl, hml], rfl⟩
            · have c49 := (nn_ne_f (a := (((p - 4) - X.length) - 2)) (b := Y.length) (by omega) (by omega)).mp c49
              refine v_bipush (v := 41) C dL_sign6_241 (by decide) ?_
              refine v_goto (tgt := 257) C dL_sign6_243 (by decide) ?_
              exact v_iret C hQ hr rfl (Nat.le_of_ble_eq_true rfl) (Nat.le_of_ble_eq_true rfl) dL_sign6_257 ⟨by rw [hTX, sjt_5 (by omega)]; rfl, rfl⟩
          · have c45 := (nk_ge_f (a := ((p - 4) - X.length)) 2 (by decide) (by omega) (by decide)).mp c45
            refine v_iload_n C 6 rfl dL_sign6_179 rfl ?_
            refine v_iconst (v := 1) C dL_sign6_180 (by decide) ?_
            refine v_icmp_le (tgt := 199) C dL_sign6_181 (by decide) (fun c52 => absurd ((nk_le (a := F (4 * k)) 1 (by decide) (by omega) (by decide)).mp c52) (by omega)) (fun c52 => ?_)
            have c52 := (nk_le_f (a := (F (4 * k))) 1 (by decide) (by omega) (by decide)).mp c52
            refine v_iload C 1 rfl dL_sign6_184 ?_
            refine v_if_ne (tgt := 194) C dL_sign6_186 (by decide) (fun c53 => ?_) (fun c53 => ?_)
            · have c53 := (nk_ne (a := ((p - 4) - X.length)) 0 (by decide) (by omega) (by decide)).mp c53
              refine v_bipush (v := 32) C dL_sign6_194 (by decide) ?_
              refine v_goto (tgt := 221) C dL_sign6_196 (by decide) ?_
              exact v_iret C hQ hr rfl (Nat.le_of_ble_eq_true rfl) (Nat.le_of_ble_eq_true rfl) dL_sign6_221 ⟨by rw [hTX, sjt_3 (by omega) (by omega), hfl, mj_2 (by omega), show p - 4 - X.length = 1 by omega]; rfl, rfl⟩
            · have c53 := (nk_ne_f (a := ((p - 4) - X.length)) 0 (by decide) (by omega) (by decide)).mp c53
              refine v_bipush (v := 44) C dL_sign6_189 (by decide) ?_
              refine v_goto (tgt := 221) C dL_sign6_191 (by decide) ?_
              exact v_iret C hQ hr rfl (Nat.le_of_ble_eq_true rfl) (Nat.le_of_ble_eq_true rfl) dL_sign6_221 ⟨by rw [hTX, sjt_3 (by omega) (by omega), hfl, mj_2 (by omega), show p - 4 - X.length = 0 by omega]; rfl, rfl⟩
        · have c40 := (nn_ge_f (a := p) (b := (4 + X.length)) (by omega) (by omega)).mp c40
          refine v_iload C 3 rfl dL_sign6_131 ?_
          refine v_iload_n C 6 rfl dL_sign6_133 rfl ?_
          refine v_iload C 1 rfl dL_sign6_134 ?_
          refine v_isub C dL_sign6_136 (v_eqi (nI_sbk (a := p) 4 (by decide) (by omega)) ?_)
          refine v_aload_n C 7 rfl dL_sign6_137 rfl ?_
          refine v_callS (rest := []) C (c_L_sign5 l hl G fa (F (4 * k + 1)) (p - 4) M F A D T lv s h hw he hF (show F (4 * k + 1) < M by omega) (show lv (F (4 * k + 1)) ≤ 5 by omega) (by rw [← hX]; omega)) S_L_85 rfl rfl (Nat.le_of_ble_eq_true rfl) ⟨Nat.le_of_ble_eq_true rfl, Nat.le_of_ble_eq_true rfl⟩ ⟨Nat.le_of_ble_eq_true rfl, Nat.le_of_ble_eq_true rfl⟩ dL_sign6_138 (fun i55 h55 q55 => ?_)
          obtain ⟨e55, rfl⟩ := q55
          rw [← hX] at e55
          subst e55
          exact v_iret C hQ hr rfl (Nat.le_of_ble_eq_true rfl) (Nat.le_of_ble_eq_true rfl) dL_sign6_141 ⟨by rw [hTX, sjt_2 (by omega) (by omega), hfl], rfl⟩
      · have c38 := (nk_ge_f (a := p) 4 (by decide) (by omega) (by decide)).mp c38
        refine v_iload_n C 4 rfl dL_sign6_114 rfl ?_
        refine v_iload C 2 rfl dL_sign6_115 ?_
        refine v_iload_n C 6 rfl dL_sign6_117 rfl ?_
        refine v_callS (rest := []) C (c_L_front_j l hl G (F (4 * k)) (F (4 * k + 2)) p h f0 (by omega)) S_L_47 rfl rfl (Nat.le_of_ble_eq_true rfl) ⟨Nat.le_of_ble_eq_true rfl, Nat.le_of_ble_eq_true rfl⟩ ⟨Nat.le_of_ble_eq_true rfl, Nat.le_of_ble_eq_true rfl⟩ dL_sign6_118 (fun i56 h56 q56 => ?_)
        obtain ⟨e56, rfl⟩ := q56; subst e56
        exact v_iret C hQ hr rfl (Nat.le_of_ble_eq_true rfl) (Nat.le_of_ble_eq_true rfl) dL_sign6_121 ⟨by rw [hTX, sjt_1 (by omega)], rfl⟩
    · have c36 := (nk_ge_f (a := (F (4 * k))) 2 (by decide) (by omega) (by decide)).mp c36
      rw [if_pos (show F (4 * k) < 2 by omega)] at hp2
      have hfl : (fjn (F (4 * k))).length = 1 := (fjn_len f0).trans (if_pos (by omega))
      have hml : (mjn (F (4 * k))).length = 3 := (mjn_len f0).trans (if_pos (by omega))
      refine v_iconst (v := 1) C dL_sign6_93 (by decide) ?_
      refine v_goto (tgt := 98) C dL_sign6_94 (by decide) ?_
      refine v_istore C [(6, .int 1), (5, .int (nI (F (4 * k + 2)))), (4, .int (nI (F (4 * k + 1)))), (3, .int (nI (F (4 * k)))), (0, .int (nI k)), (1, .int (nI p)), (2, .ref fa)] rfl (by decide) dL_sign6_98 ?_
      refine v_iload C 2 rfl dL_sign6_100 ?_
      refine v_aload_n C 6 rfl dL_sign6_102 rfl ?_
      refine v_callS (rest := []) C (c_L_length5 l hl G fa (F (4 * k + 1)) M F A D T lv s h hw he hF (show F (4 * k + 1) < M by omega) (show lv (F (4 * k + 1)) ≤ 5 by omega)) S_L_82 rfl rfl (Nat.le_of_ble_eq_true rfl) ⟨Nat.le_of_ble_eq_true rfl, Nat.le_of_ble_eq_true rfl⟩ ⟨Nat.le_of_ble_eq_true rfl, Nat.le_of_ble_eq_true rfl⟩ dL_sign6_103 (fun i57 h57 q57 => ?_)
      obtain ⟨e57, rfl⟩ := q57
      rw [← hX] at e57
      subst e57
      refine v_istore C [(7, .int (nI X.length)), (6, .int 1), (5, .int (nI (F (4 * k + 2)))), (4, .int (nI (F (4 * k + 1)))), (3, .int (nI (F (4 * k)))), (0, .int (nI k)), (1, .int (nI p)), (2, .ref fa)] rfl (by decide) dL_sign6_106 ?_
      refine v_iload_n C 6 rfl dL_sign6_108 rfl ?_
      refine v_iload C 1 rfl dL_sign6_109 ?_
      refine v_icmp_ge (tgt := 122) C dL_sign6_111 (by decide) (fun c58 => ?_) (fun c58 => ?_)
      · have c58 := (nk_ge (a := p) 1 (by decide) (by omega) (by decide)).mp c58
        refine v_iload_n C 6 rfl dL_sign6_122 rfl ?_
        refine v_iload C 1 rfl dL_sign6_123 ?_
        refine v_iload C 0 rfl dL_sign6_125 ?_
        refine v_iadd C dL_sign6_127 (v_eqi (nI_kad X.length 1 (by decide)) ?_)
        refine v_icmp_ge (tgt := 142) C dL_sign6_128 (by decide) (fun c60 => ?_) (fun c60 => ?_)
        · have c60 := (nn_ge (a := p) (b := (1 + X.length)) (by omega) (by omega)).mp c60
          refine v_iload_n C 6 rfl dL_sign6_142 rfl ?_
          refine v_iload C 1 rfl dL_sign6_143 ?_
          refine v_isub C dL_sign6_145 (v_eqi (nI_sbk (a := p) 1 (by decide) (by omega)) ?_)
          refine v_iload C 0 rfl dL_sign6_146 ?_
          refine v_isub C dL_sign6_148 (v_eqi (pk_sub (a := (p - 1)) (b := X.length) (by omega)) ?_)
          refine v_istore C [(8, .int (nI ((p - 1) - X.length))), (7, .int (nI X.length)), (6, .int 1), (5, .int (nI (F (4 * k + 2)))), (4, .int (nI (F (4 * k + 1)))), (3, .int (nI (F (4 * k)))), (0, .int (nI k)), (1, .int (nI p)), (2, .ref fa)] rfl (by decide) dL_sign6_149 ?_
          refine v_iload_n C 5 rfl dL_sign6_151 rfl ?_
          refine v_iconst (v := 2) C dL_sign6_152 (by decide) ?_
          refine v_icmp_ge (tgt := 160) C dL_sign6_153 (by decide) (fun c63 => absurd ((nk_ge (a := F (4 * k)) 2 (by decide) (by omega) (by decide)).mp c63) (by omega)) (fun c63 => ?_)
          have c63 := (nk_ge_f (a := (F (4 * k))) 2 (by decide) (by omega) (by decide)).mp c63
          refine v_iconst (v := 3) C dL_sign6_156 (by decide) ?_
          refine v_goto (tgt := 170) C dL_sign6_157 (by decide) ?_
          refine v_istore C [(9, .int 3), (8, .int (nI ((p - 1) - X.length))), (7, .int (nI X.length)), (6, .int 1), (5, .int (nI (F (4 * k + 2)))), (4, .int (nI (F (4 * k + 1)))), (3, .int (nI (F (4 * k)))), (0, .int (nI k)), (1, .int (nI p)), (2, .ref fa)] rfl (by decide) dL_sign6_170 ?_
          refine v_iload C 1 rfl dL_sign6_172 ?_
          refine v_iload C 0 rfl dL_sign6_174 ?_
          refine v_icmp_ge (tgt := 222) C dL_sign6_176 (by decide) (fun c64 => ?_) (fun c64 => ?_)
          · have c64 := (nk_ge (a := ((p - 1) - X.length)) 3 (by decide) (by omega) (by decide)).mp c64
            refine v_iload_n C 6 rfl dL_sign6_222 rfl ?_
            refine v_iconst (v := 3) C dL_sign6_223 (by decide) ?_
            refine v_icmp_gt (tgt := 241) C dL_sign6_224 (by decide) (fun c65 => absurd ((nk_gt (a := F (4 * k)) 3 (by decide) (by omega) (by decide)).mp c65) (by omega)) (fun c65 => ?_)
            have c65 := (nk_gt_f (a := (F (4 * k))) 3 (by decide) (by omega) (by decide)).mp c65
            refine v_iload C 1 rfl dL_sign6_227 ?_
            refine v_iload C 0 rfl dL_sign6_229 ?_
            refine v_isub C dL_sign6_231 (v_eqi (nI_sbk (a := ((p - 1) - X.length)) 3 (by decide) (by omega)) ?_)
            refine v_iload C 4 rfl dL_sign6_232 ?_
            refine v_aload_n C 9 rfl dL_sign6_234 rfl ?_
            refine v_callS (rest := [.int (nI (((p - 1) - X.length) - 3))]) C (c_L_length5 l hl G fa (F (4 * k + 2)) M F A D T lv s h hw he hF (show F (4 * k + 2) < M by omega) (show lv (F (4 * k + 2)) ≤ 5 by omega)) S_L_82 rfl rfl (Nat.le_of_ble_eq_true rfl) ⟨Nat.le_of_ble_eq_true rfl, Nat.le_of_ble_eq_true rfl⟩ ⟨Nat.le_of_ble_eq_true rfl, Nat.le_of_ble_eq_true rfl⟩ dL_sign6_235 (fun i67 h67 q67 => ?_)
            obtain ⟨e67, rfl⟩ := q67
            rw [← hY] at e67
            subst e67
            refine v_icmp_ne (tgt := 246) C dL_sign6_238 (by decide) (fun c68 => ?_) (fun c68 => ?_)
            · have c68 := (nn_ne (a := (((p - 1) - X.length) - 3)) (b := Y.length) (by omega) (by omega)).mp c68
              refine v_iload C 4 rfl dL_sign6_246 ?_
              refine v_iload C 1 rfl dL_sign6_248 ?_
              refine v_iload C 0 rfl dL_sign6_250 ?_
              refine v_isub C dL_sign6_252 (v_eqi (nI_sbk (a := ((p - 1) - X.length)) 3 (by decide) (by omega)) ?_)
              refine v_aload_n C 9 rfl dL_sign6_253 rfl ?_
              refine v_callS (rest := []) C (c_L_sign5 l hl G fa (F (4 * k + 2)) (((p - 1) - X.length) - 3) M F A D T lv s h hw he hF (show F (4 * k + 2) < M by omega) (show lv (F (4 * k + 2)) ≤ 5 by omega) (by rw [← hY]; omega)) S_L_85 rfl rfl (Nat.le_of_ble_eq_true rfl) ⟨Nat.le_of_ble_eq_true rfl, Nat.le_of_ble_eq_true rfl⟩ ⟨Nat.le_of_ble_eq_true rfl, Nat.le_of_ble_eq_true rfl⟩ dL_sign6_254 (fun i70 h70 q70 => ?_)
              obtain ⟨e70, rfl⟩ := q70
              rw [← hY] at e70
              subst e70
              exact v_iret C hQ hr rfl (Nat.le_of_ble_eq_true rfl) (Nat.le_of_ble_eq_true rfl) dL_sign6_257 ⟨by rw [hTX, sjt_4 (by omega) (by omega), hfl, hml], rfl⟩
            · have c68 := (nn_ne_f (a := (((p - 1) - X.length) - 3)) (b := Y.length) (by omega) (by omega)).mp c68
              refine v_bipush (v := 41) C dL_sign6_241 (by decide) ?_
              refine v_goto (tgt := 257) C dL_sign6_243 (by decide) ?_
              exact v_iret C hQ hr rfl (Nat.le_of_ble_eq_true rfl) (Nat.le_of_ble_eq_true rfl) dL_sign6_257 ⟨by rw [hTX, sjt_5 (by omega)]; rfl, rfl⟩
          · have c64 := (nk_ge_f (a := ((p - 1) - X.length)) 3 (by decide) (by omega) (by decide)).mp c64
            refine v_iload_n C 6 rfl dL_sign6_179 rfl ?_
            refine v_iconst (v := 1) C dL_sign6_180 (by decide) ?_
            refine v_icmp_le (tgt := 199) C dL_sign6_181 (by decide) (fun c71 => ?_) (fun c71 => absurd ((nk_le_f (a := F (4 * k)) 1 (by decide) (by omega) (by decide)).mp c71) (by omega))
            have c71 := (nk_le (a := (F (4 * k))) 1 (by decide) (by omega) (by decide)).mp c71
            refine v_iload C 1 rfl dL_sign6_199 ?_
            refine v_iconst (v := 1) C dL_sign6_201 (by decide) ?_
            refine v_icmp_eq (tgt := 210) C dL_sign6_202 (by decide) (fun c72 => ?_) (fun c72 => ?_)
            · have c72 := (nk_eq (a := ((p - 1) - X.length)) 1 (by decide) (by omega) (by decide)).mp c72
              refine v_iload_n C 6 rfl dL_sign6_210 rfl ?_
              refine v_if_ne (tgt := 219) C dL_sign6_211 (by decide) (fun c73 => ?_) (fun c73 => ?_)
              · have c73 := (nk_ne (a := (F (4 * k))) 0 (by decide) (by omega) (by decide)).mp c73
                refine v_bipush (v := 45) C dL_sign6_219 (by decide) ?_
                exact v_iret C hQ hr rfl (Nat.le_of_ble_eq_true rfl) (Nat.le_of_ble_eq_true rfl) dL_sign6_221 ⟨by rw [hTX, sjt_3 (by omega) (by omega), hfl, show p - 1 - X.length = 1 by omega, show F (4 * k) = 1 by omega]; rfl, rfl⟩
              · have c73 := (nk_ne_f (a := (F (4 * k))) 0 (by decide) (by omega) (by decide)).mp c73
                refine v_bipush (v := 43) C dL_sign6_214 (by decide) ?_
                refine v_goto (tgt := 221) C dL_sign6_216 (by decide) ?_
                exact v_iret C hQ hr rfl (Nat.le_of_ble_eq_true rfl) (Nat.le_of_ble_eq_true rfl) dL_sign6_221 ⟨by rw [hTX, sjt_3 (by omega) (by omega), hfl, show p - 1 - X.length = 1 by omega, show F (4 * k) = 0 by omega]; rfl, rfl⟩
            · have c72 := (nk_eq_f (a := ((p - 1) - X.length)) 1 (by decide) (by omega) (by decide)).mp c72
              refine v_bipush (v := 32) C dL_sign6_205 (by decide) ?_
              refine v_goto (tgt := 221) C dL_sign6_207 (by decide) ?_
              exact v_iret C hQ hr rfl (Nat.le_of_ble_eq_true rfl) (Nat.le_of_ble_eq_true rfl) dL_sign6_221 ⟨by rw [hTX, sjt_3 (by omega) (by omega), hfl, mj_b (by omega) (by omega) (by omega)]; rfl, rfl⟩
        · have c60 := (nn_ge_f (a := p) (b := (1 + X.length)) (by omega) (by omega)).mp c60
          refine v_iload C 3 rfl dL_sign6_131 ?_
          refine v_iload_n C 6 rfl dL_sign6_133 rfl ?_
          refine v_iload C 1 rfl dL_sign6_134 ?_
          refine v_isub C dL_sign6_136 (v_eqi (nI_sbk (a := p) 1 (by decide) (by omega)) ?_)
          refine v_aload_n C 7 rfl dL_sign6_137 rfl ?_
          refine v_callS (rest := []) C (c_L_sign5 l hl G fa (F (4 * k + 1)) (p - 1) M F A D T lv s h hw he hF (show F (4 * k + 1) < M by omega) (show lv (F (4 * k + 1)) ≤ 5 by omega) (by rw [← hX]; omega)) S_L_85 rfl rfl (Nat.le_of_ble_eq_true rfl) ⟨Nat.le_of_ble_eq_true rfl, Nat.le_of_ble_eq_true rfl⟩ ⟨Nat.le_of_ble_eq_true rfl, Nat.le_of_ble_eq_true rfl⟩ dL_sign6_138 (fun i75 h75 q75 => ?_)
          obtain ⟨e75, rfl⟩ := q75
          rw [← hX] at e75
          subst e75
          exact v_iret C hQ hr rfl (Nat.le_of_ble_eq_true rfl) (Nat.le_of_ble_eq_true rfl) dL_sign6_141 ⟨by rw [hTX, sjt_2 (by omega) (by omega), hfl], rfl⟩
      · have c58 := (nk_ge_f (a := p) 1 (by decide) (by omega) (by decide)).mp c58
        refine v_iload_n C 4 rfl dL_sign6_114 rfl ?_
        refine v_iload C 2 rfl dL_sign6_115 ?_
        refine v_iload_n C 6 rfl dL_sign6_117 rfl ?_
        refine v_callS (rest := []) C (c_L_front_j l hl G (F (4 * k)) (F (4 * k + 2)) p h f0 (by omega)) S_L_47 rfl rfl (Nat.le_of_ble_eq_true rfl) ⟨Nat.le_of_ble_eq_true rfl, Nat.le_of_ble_eq_true rfl⟩ ⟨Nat.le_of_ble_eq_true rfl, Nat.le_of_ble_eq_true rfl⟩ dL_sign6_118 (fun i76 h76 q76 => ?_)
        obtain ⟨e76, rfl⟩ := q76; subst e76
        exact v_iret C hQ hr rfl (Nat.le_of_ble_eq_true rfl) (Nat.le_of_ble_eq_true rfl) dL_sign6_121 ⟨by rw [hTX, sjt_1 (by omega)], rfl⟩
  · obtain ⟨X, hX⟩ : ∃ X, X = txtOf (T (F (4 * k + 1))) := ⟨_, rfl⟩
    have xl : X.length ≤ 441 := by rw [hX]; exact (he.w6 hw (k := F (4 * k + 1)) (by omega)).txl6 (Nat.le_refl _)
    have hTX : txtOf (T k) = dgl (F (4 * k + 2)) ++ [37, 32, 111, 102, 32] ++ X := by rw [fT, txt_share (he.w6 hw (k := F (4 * k + 1)) (by omega)), hX]
    have d3 := dg_le3 f2
    have hp2 : p < sb_dg (F (4 * k + 2)) + 5 + X.length := by rw [hTX] at hp; simp only [List.length_append, dgl_len, List.length_cons, List.length_nil] at hp; omega
    refine v_aload_n C 2 rfl dL_sign6_0 rfl ?_
    refine v_iconst (v := 4) C dL_sign6_1 (by decide) ?_
    refine v_iload_n C 0 rfl dL_sign6_2 rfl ?_
    refine v_imul C dL_sign6_3 (v_eqi (nI_kml k 4 (by decide)) ?_)
    refine v_iald C hF (vpin (show 4 * k < 60 by omega) (by decide)) dL_sign6_4 (v_eqi (y := nI 7) ((congrArg (fun j => nI (F j)) (nI_clamp (show 4 * k < 2 ^ 31 by omega))).trans (congrArg nI f0)) ?_)
    refine v_istore_n C [(3, .int (nI 7)), (0, .int (nI k)), (1, .int (nI p)), (2, .ref fa)] rfl (by decide) dL_sign6_5 rfl ?_
    refine v_aload_n C 3 rfl dL_sign6_6 rfl ?_
    refine v_iconst (v := 4) C dL_sign6_7 (by decide) ?_
    refine v_iload_n C 1 rfl dL_sign6_8 rfl ?_
    refine v_imul C dL_sign6_9 (v_eqi (nI_kml k 4 (by decide)) ?_)
    refine v_iconst (v := 1) C dL_sign6_10 (by decide) ?_
    refine v_iadd C dL_sign6_11 (v_eqi (nI_adk (4 * k) 1 (by decide)) ?_)
    refine v_iald C hF (vpin (show 4 * k + 1 < 60 by omega) (by decide)) dL_sign6_12 (v_eqi (y := nI (F (4 * k + 1))) (congrArg (fun j => nI (F j)) (nI_clamp (show 4 * k + 1 < 2 ^ 31 by omega))) ?_)
    refine v_istore C [(4, .int (nI (F (4 * k + 1)))), (3, .int (nI 7)), (0, .int (nI k)), (1, .int (nI p)), (2, .ref fa)] rfl (by decide) dL_sign6_13 ?_
    refine v_aload_n C 4 rfl dL_sign6_15 rfl ?_
    refine v_iconst (v := 4) C dL_sign6_16 (by decide) ?_
    refine v_iload_n C 2 rfl dL_sign6_17 rfl ?_
    refine v_imul C dL_sign6_18 (v_eqi (nI_kml k 4 (by decide)) ?_)
    refine v_iconst (v := 2) C dL_sign6_19 (by decide) ?_
    refine v_iadd C dL_sign6_20 (v_eqi (nI_adk (4 * k) 2 (by decide)) ?_)
    refine v_iald C hF (vpin (show 4 * k + 2 < 60 by omega) (by decide)) dL_sign6_21 (v_eqi (y := nI (F (4 * k + 2))) (congrArg (fun j => nI (F j)) (nI_clamp (show 4 * k + 2 < 2 ^ 31 by omega))) ?_)
    refine v_istore C [(5, .int (nI (F (4 * k + 2)))), (4, .int (nI (F (4 * k + 1)))), (3, .int (nI 7)), (0, .int (nI k)), (1, .int (nI p)), (2, .ref fa)] rfl (by decide) dL_sign6_22 ?_
    refine v_iload_n C 2 rfl dL_sign6_24 rfl ?_
    refine v_iconst (v := 4) C dL_sign6_25 (by decide) ?_
    refine v_icmp_eq (tgt := 34) C dL_sign6_26 (by decide) (fun c82 => absurd c82 (by decide)) (fun c82 => ?_)
    refine v_iload_n C 2 rfl dL_sign6_29 rfl ?_
    refine v_iconst (v := 5) C dL_sign6_30 (by decide) ?_
    refine v_icmp_ne (tgt := 41) C dL_sign6_31 (by decide) (fun c83 => ?_) (fun c83 => absurd c83 (by decide))
    refine v_iload_n C 2 rfl dL_sign6_41 rfl ?_
    refine v_bipush (v := 6) C dL_sign6_42 (by decide) ?_
    refine v_icmp_ne (tgt := 62) C dL_sign6_44 (by decide) (fun c84 => ?_) (fun c84 => absurd c84 (by decide))
    refine v_iload_n C 2 rfl dL_sign6_62 rfl ?_
    refine v_bipush (v := 7) C dL_sign6_63 (by decide) ?_
    refine v_icmp_ne (tgt := 78) C dL_sign6_65 (by decide) (fun c85 => absurd c85 (by decide)) (fun c85 => ?_)
    refine v_iload C 0 rfl dL_sign6_68 ?_
    refine v_callS (rest := []) C (c_L_digits l hl G (F (4 * k + 2)) h (by omega)) S_L_12 rfl rfl (Nat.le_of_ble_eq_true rfl) ⟨Nat.le_of_ble_eq_true rfl, Nat.le_of_ble_eq_true rfl⟩ ⟨Nat.le_of_ble_eq_true rfl, Nat.le_of_ble_eq_true rfl⟩ dL_sign6_70 (fun i86 h86 q86 => ?_)
    obtain ⟨e86, rfl⟩ := q86; subst e86
    refine v_iconst (v := 5) C dL_sign6_73 (by decide) ?_
    refine v_iadd C dL_sign6_74 (v_eqi (nI_adk (sb_dg (F (4 * k + 2))) 5 (by decide)) ?_)
    refine v_goto (tgt := 98) C dL_sign6_75 (by decide) ?_
    refine v_istore C [(6, .int (nI ((sb_dg (F (4 * k + 2))) + 5))), (5, .int (nI (F (4 * k + 2)))), (4, .int (nI (F (4 * k + 1)))), (3, .int (nI 7)), (0, .int (nI k)), (1, .int (nI p)), (2, .ref fa)] rfl (by decide) dL_sign6_98 ?_
    refine v_iload C 2 rfl dL_sign6_100 ?_
    refine v_aload_n C 6 rfl dL_sign6_102 rfl ?_
    refine v_callS (rest := []) C (c_L_length5 l hl G fa (F (4 * k + 1)) M F A D T lv s h hw he hF (show F (4 * k + 1) < M by omega) (show lv (F (4 * k + 1)) ≤ 5 by omega)) S_L_82 rfl rfl (Nat.le_of_ble_eq_true rfl) ⟨Nat.le_of_ble_eq_true rfl, Nat.le_of_ble_eq_true rfl⟩ ⟨Nat.le_of_ble_eq_true rfl, Nat.le_of_ble_eq_true rfl⟩ dL_sign6_103 (fun i88 h88 q88 => ?_)
    obtain ⟨e88, rfl⟩ := q88
    rw [← hX] at e88
    subst e88
    refine v_istore C [(7, .int (nI X.length)), (6, .int (nI ((sb_dg (F (4 * k + 2))) + 5))), (5, .int (nI (F (4 * k + 2)))), (4, .int (nI (F (4 * k + 1)))), (3, .int (nI 7)), (0, .int (nI k)), (1, .int (nI p)), (2, .ref fa)] rfl (by decide) dL_sign6_106 ?_
    refine v_iload_n C 6 rfl dL_sign6_108 rfl ?_
    refine v_iload C 1 rfl dL_sign6_109 ?_
    refine v_icmp_ge (tgt := 122) C dL_sign6_111 (by decide) (fun c89 => ?_) (fun c89 => ?_)
    · have c89 := (nn_ge (a := p) (b := ((sb_dg (F (4 * k + 2))) + 5)) (by omega) (by omega)).mp c89
      refine v_iload_n C 6 rfl dL_sign6_122 rfl ?_
      refine v_iload C 1 rfl dL_sign6_123 ?_
      refine v_iload C 0 rfl dL_sign6_125 ?_
      refine v_iadd C dL_sign6_127 (v_eqi (nI_add ((sb_dg (F (4 * k + 2))) + 5) X.length) ?_)
      refine v_icmp_ge (tgt := 142) C dL_sign6_128 (by decide) (fun c91 => absurd ((nn_ge (a := p) (b := ((sb_dg (F (4 * k + 2))) + 5) + X.length) (by omega) (by omega)).mp c91) (by omega)) (fun c91 => ?_)
      have c91 := (nn_ge_f (a := p) (b := (((sb_dg (F (4 * k + 2))) + 5) + X.length)) (by omega) (by omega)).mp c91
      refine v_iload C 3 rfl dL_sign6_131 ?_
      refine v_iload_n C 6 rfl dL_sign6_133 rfl ?_
      refine v_iload C 1 rfl dL_sign6_134 ?_
      refine v_isub C dL_sign6_136 (v_eqi (pk_sub (a := p) (b := ((sb_dg (F (4 * k + 2))) + 5)) (by omega)) ?_)
      refine v_aload_n C 7 rfl dL_sign6_137 rfl ?_
      refine v_callS (rest := []) C (c_L_sign5 l hl G fa (F (4 * k + 1)) (p - ((sb_dg (F (4 * k + 2))) + 5)) M F A D T lv s h hw he hF (show F (4 * k + 1) < M by omega) (show lv (F (4 * k + 1)) ≤ 5 by omega) (by rw [← hX]; omega)) S_L_85 rfl rfl (Nat.le_of_ble_eq_true rfl) ⟨Nat.le_of_ble_eq_true rfl, Nat.le_of_ble_eq_true rfl⟩ ⟨Nat.le_of_ble_eq_true rfl, Nat.le_of_ble_eq_true rfl⟩ dL_sign6_138 (fun i93 h93 q93 => ?_)
      obtain ⟨e93, rfl⟩ := q93
      rw [← hX] at e93
      subst e93
      exact v_iret C hQ hr rfl (Nat.le_of_ble_eq_true rfl) (Nat.le_of_ble_eq_true rfl) dL_sign6_141 ⟨by rw [hTX, gd_r (by simp only [List.length_append, dgl_len, List.length_cons, List.length_nil]; omega)]; simp only [List.length_append, dgl_len, List.length_cons, List.length_nil], rfl⟩
    · have c89 := (nn_ge_f (a := p) (b := ((sb_dg (F (4 * k + 2))) + 5)) (by omega) (by omega)).mp c89
      refine v_iload_n C 4 rfl dL_sign6_114 rfl ?_
      refine v_iload C 2 rfl dL_sign6_115 ?_
      refine v_iload_n C 6 rfl dL_sign6_117 rfl ?_
      refine v_callS (rest := []) C (c_L_front_7 l hl G (F (4 * k + 2)) p h (by omega) (by omega)) S_L_47 rfl rfl (Nat.le_of_ble_eq_true rfl) ⟨Nat.le_of_ble_eq_true rfl, Nat.le_of_ble_eq_true rfl⟩ ⟨Nat.le_of_ble_eq_true rfl, Nat.le_of_ble_eq_true rfl⟩ dL_sign6_118 (fun i94 h94 q94 => ?_)
      obtain ⟨e94, rfl⟩ := q94; subst e94
      exact v_iret C hQ hr rfl (Nat.le_of_ble_eq_true rfl) (Nat.le_of_ble_eq_true rfl) dL_sign6_121 ⟨congrArg nI ((gd_l (b := X) (show p < (dgl (F (4 * k + 2)) ++ [37, 32, 111, 102, 32]).length by simp only [List.length_append, dgl_len, List.length_cons, List.length_nil]; omega)).symm.trans (congrArg (fun z => z.getD p 0) hTX.symm)), rfl⟩
  · obtain ⟨X, hX⟩ : ∃ X, X = txtOf (T (F (4 * k + 1))) := ⟨_, rfl⟩
    have xl : X.length ≤ 441 := by rw [hX]; exact (he.w6 hw (k := F (4 * k + 1)) (by omega)).txl6 (Nat.le_refl _)
    have hTX : txtOf (T k) = [121, 101, 97, 114, 40] ++ X ++ [41] := by rw [fT, txt_year (he.w6 hw (k := F (4 * k + 1)) (by omega)), hX]
    have hp2 : p < 5 + X.length + 1 := by rw [hTX] at hp; simp only [List.length_append, List.length_cons, List.length_nil] at hp; omega
    refine v_aload_n C 2 rfl dL_sign6_0 rfl ?_
    refine v_iconst (v := 4) C dL_sign6_1 (by decide) ?_
    refine v_iload_n C 0 rfl dL_sign6_2 rfl ?_
    refine v_imul C dL_sign6_3 (v_eqi (nI_kml k 4 (by decide)) ?_)
    refine v_iald C hF (vpin (show 4 * k < 60 by omega) (by decide)) dL_sign6_4 (v_eqi (y := nI 8) ((congrArg (fun j => nI (F j)) (nI_clamp (show 4 * k < 2 ^ 31 by omega))).trans (congrArg nI f0)) ?_)
    refine v_istore_n C [(3, .int (nI 8)), (0, .int (nI k)), (1, .int (nI p)), (2, .ref fa)] rfl (by decide) dL_sign6_5 rfl ?_
    refine v_aload_n C 3 rfl dL_sign6_6 rfl ?_
    refine v_iconst (v := 4) C dL_sign6_7 (by decide) ?_
    refine v_iload_n C 1 rfl dL_sign6_8 rfl ?_
    refine v_imul C dL_sign6_9 (v_eqi (nI_kml k 4 (by decide)) ?_)
    refine v_iconst (v := 1) C dL_sign6_10 (by decide) ?_
    refine v_iadd C dL_sign6_11 (v_eqi (nI_adk (4 * k) 1 (by decide)) ?_)
    refine v_iald C hF (vpin (show 4 * k + 1 < 60 by omega) (by decide)) dL_sign6_12 (v_eqi (y := nI (F (4 * k + 1))) (congrArg (fun j => nI (F j)) (nI_clamp (show 4 * k + 1 < 2 ^ 31 by omega))) ?_)
    refine v_istore C [(4, .int (nI (F (4 * k + 1)))), (3, .int (nI 8)), (0, .int (nI k)), (1, .int (nI p)), (2, .ref fa)] rfl (by decide) dL_sign6_13 ?_
    refine v_aload_n C 4 rfl dL_sign6_15 rfl ?_
    refine v_iconst (v := 4) C dL_sign6_16 (by decide) ?_
    refine v_iload_n C 2 rfl dL_sign6_17 rfl ?_
    refine v_imul C dL_sign6_18 (v_eqi (nI_kml k 4 (by decide)) ?_)
    refine v_iconst (v := 2) C dL_sign6_19 (by decide) ?_
    refine v_iadd C dL_sign6_20 (v_eqi (nI_adk (4 * k) 2 (by decide)) ?_)
    refine v_iald C hF (vpin (show 4 * k + 2 < 60 by omega) (by decide)) dL_sign6_21 (v_eqi (y := nI (F (4 * k + 2))) (congrArg (fun j => nI (F j)) (nI_clamp (show 4 * k + 2 < 2 ^ 31 by omega))) ?_)
    refine v_istore C [(5, .int (nI (F (4 * k + 2)))), (4, .int (nI (F (4 * k + 1)))), (3, .int (nI 8)), (0, .int (nI k)), (1, .int (nI p)), (2, .ref fa)] rfl (by decide) dL_sign6_22 ?_
    refine v_iload_n C 2 rfl dL_sign6_24 rfl ?_
    refine v_iconst (v := 4) C dL_sign6_25 (by decide) ?_
    refine v_icmp_eq (tgt := 34) C dL_sign6_26 (by decide) (fun c100 => absurd c100 (by decide)) (fun c100 => ?_)
    refine v_iload_n C 2 rfl dL_sign6_29 rfl ?_
    refine v_iconst (v := 5) C dL_sign6_30 (by decide) ?_
    refine v_icmp_ne (tgt := 41) C dL_sign6_31 (by decide) (fun c101 => ?_) (fun c101 => absurd c101 (by decide))
    refine v_iload_n C 2 rfl dL_sign6_41 rfl ?_
    refine v_bipush (v := 6) C dL_sign6_42 (by decide) ?_
    refine v_icmp_ne (tgt := 62) C dL_sign6_44 (by decide) (fun c102 => ?_) (fun c102 => absurd c102 (by decide))
    refine v_iload_n C 2 rfl dL_sign6_62 rfl ?_
    refine v_bipush (v := 7) C dL_sign6_63 (by decide) ?_
    refine v_icmp_ne (tgt := 78) C dL_sign6_65 (by decide) (fun c103 => ?_) (fun c103 => absurd c103 (by decide))
    refine v_iload_n C 2 rfl dL_sign6_78 rfl ?_
    refine v_bipush (v := 8) C dL_sign6_79 (by decide) ?_
    refine v_icmp_ne (tgt := 88) C dL_sign6_81 (by decide) (fun c104 => absurd c104 (by decide)) (fun c104 => ?_)
    refine v_iconst (v := 5) C dL_sign6_84 (by decide) ?_
    refine v_goto (tgt := 98) C dL_sign6_85 (by decide) ?_
    refine v_istore C [(6, .int 5), (5, .int (nI (F (4 * k + 2)))), (4, .int (nI (F (4 * k + 1)))), (3, .int (nI 8)), (0, .int (nI k)), (1, .int (nI p)), (2, .ref fa)] rfl (by decide) dL_sign6_98 ?_
    refine v_iload C 2 rfl dL_sign6_100 ?_
    refine v_aload_n C 6 rfl dL_sign6_102 rfl ?_
    refine v_callS (rest := []) C (c_L_length5 l hl G fa (F (4 * k + 1)) M F A D T lv s h hw he hF (show F (4 * k + 1) < M by omega) (show lv (F (4 * k + 1)) ≤ 5 by omega)) S_L_82 rfl rfl (Nat.le_of_ble_eq_true rfl) ⟨Nat.le_of_ble_eq_true rfl, Nat.le_of_ble_eq_true rfl⟩ ⟨Nat.le_of_ble_eq_true rfl, Nat.le_of_ble_eq_true rfl⟩ dL_sign6_103 (fun i105 h105 q105 => ?_)
    obtain ⟨e105, rfl⟩ := q105
    rw [← hX] at e105
    subst e105
    refine v_istore C [(7, .int (nI X.length)), (6, .int 5), (5, .int (nI (F (4 * k + 2)))), (4, .int (nI (F (4 * k + 1)))), (3, .int (nI 8)), (0, .int (nI k)), (1, .int (nI p)), (2, .ref fa)] rfl (by decide) dL_sign6_106 ?_
    refine v_iload_n C 6 rfl dL_sign6_108 rfl ?_
    refine v_iload C 1 rfl dL_sign6_109 ?_
    refine v_icmp_ge (tgt := 122) C dL_sign6_111 (by decide) (fun c106 => ?_) (fun c106 => ?_)
    · have c106 := (nk_ge (a := p) 5 (by decide) (by omega) (by decide)).mp c106
      refine v_iload_n C 6 rfl dL_sign6_122 rfl ?_
      refine v_iload C 1 rfl dL_sign6_123 ?_
      refine v_iload C 0 rfl dL_sign6_125 ?_
      refine v_iadd C dL_sign6_127 (v_eqi (nI_kad X.length 5 (by decide)) ?_)
      refine v_icmp_ge (tgt := 142) C dL_sign6_128 (by decide) (fun c108 => ?_) (fun c108 => ?_)
      · have c108 := (nn_ge (a := p) (b := (5 + X.length)) (by omega) (by omega)).mp c108
        refine v_iload_n C 6 rfl dL_sign6_142 rfl ?_
        refine v_iload C 1 rfl dL_sign6_143 ?_
        refine v_isub C dL_sign6_145 (v_eqi (nI_sbk (a := p) 5 (by decide) (by omega)) ?_)
        refine v_iload C 0 rfl dL_sign6_146 ?_
        refine v_isub C dL_sign6_148 (v_eqi (pk_sub (a := (p - 5)) (b := X.length) (by omega)) ?_)
        refine v_istore C [(8, .int (nI ((p - 5) - X.length))), (7, .int (nI X.length)), (6, .int 5), (5, .int (nI (F (4 * k + 2)))), (4, .int (nI (F (4 * k + 1)))), (3, .int (nI 8)), (0, .int (nI k)), (1, .int (nI p)), (2, .ref fa)] rfl (by decide) dL_sign6_149 ?_
        refine v_iload_n C 5 rfl dL_sign6_151 rfl ?_
        refine v_iconst (v := 2) C dL_sign6_152 (by decide) ?_
        refine v_icmp_ge (tgt := 160) C dL_sign6_153 (by decide) (fun c111 => ?_) (fun c111 => absurd c111 (by decide))
        refine v_iload_n C 5 rfl dL_sign6_160 rfl ?_
        refine v_iconst (v := 4) C dL_sign6_161 (by decide) ?_
        refine v_icmp_ge (tgt := 169) C dL_sign6_162 (by decide) (fun c112 => ?_) (fun c112 => absurd c112 (by decide))
        refine v_iconst (v := 0) C dL_sign6_169 (by decide) ?_
        refine v_istore C [(9, .int 0), (8, .int (nI ((p - 5) - X.length))), (7, .int (nI X.length)), (6, .int 5), (5, .int (nI (F (4 * k + 2)))), (4, .int (nI (F (4 * k + 1)))), (3, .int (nI 8)), (0, .int (nI k)), (1, .int (nI p)), (2, .ref fa)] rfl (by decide) dL_sign6_170 ?_
        refine v_iload C 1 rfl dL_sign6_172 ?_
        refine v_iload C 0 rfl dL_sign6_174 ?_
        refine v_icmp_ge (tgt := 222) C dL_sign6_176 (by decide) (fun c113 => ?_) (fun c113 => absurd ((nk_ge_f (a := (p - 5) - X.length) 0 (by decide) (by omega) (by decide)).mp c113) (by omega))
        have c113 := (nk_ge (a := ((p - 5) - X.length)) 0 (by decide) (by omega) (by decide)).mp c113
        refine v_iload_n C 6 rfl dL_sign6_222 rfl ?_
        refine v_iconst (v := 3) C dL_sign6_223 (by decide) ?_
        refine v_icmp_gt (tgt := 241) C dL_sign6_224 (by decide) (fun c114 => ?_) (fun c114 => absurd c114 (by decide))
        refine v_bipush (v := 41) C dL_sign6_241 (by decide) ?_
        refine v_goto (tgt := 257) C dL_sign6_243 (by decide) ?_
        exact v_iret C hQ hr rfl (Nat.le_of_ble_eq_true rfl) (Nat.le_of_ble_eq_true rfl) dL_sign6_257 ⟨by rw [hTX, List.append_assoc, gd_r (show 5 ≤ p by omega)]; show _ = nI ((X ++ [41]).getD (p - 5) 0); rw [gd_r (show X.length ≤ p - 5 by omega)]; rw [show p - 5 - X.length = 0 by omega]; rfl, rfl⟩
      · have c108 := (nn_ge_f (a := p) (b := (5 + X.length)) (by omega) (by omega)).mp c108
        refine v_iload C 3 rfl dL_sign6_131 ?_
        refine v_iload_n C 6 rfl dL_sign6_133 rfl ?_
        refine v_iload C 1 rfl dL_sign6_134 ?_
        refine v_isub C dL_sign6_136 (v_eqi (nI_sbk (a := p) 5 (by decide) (by omega)) ?_)
        refine v_aload_n C 7 rfl dL_sign6_137 rfl ?_
        refine v_callS (rest := []) C (c_L_sign5 l hl G fa (F (4 * k + 1)) (p - 5) M F A D T lv s h hw he hF (show F (4 * k + 1) < M by omega) (show lv (F (4 * k + 1)) ≤ 5 by omega) (by rw [← hX]; omega)) S_L_85 rfl rfl (Nat.le_of_ble_eq_true rfl) ⟨Nat.le_of_ble_eq_true rfl, Nat.le_of_ble_eq_true rfl⟩ ⟨Nat.le_of_ble_eq_true rfl, Nat.le_of_ble_eq_true rfl⟩ dL_sign6_138 (fun i116 h116 q116 => ?_)
        obtain ⟨e116, rfl⟩ := q116
        rw [← hX] at e116
        subst e116
        exact v_iret C hQ hr rfl (Nat.le_of_ble_eq_true rfl) (Nat.le_of_ble_eq_true rfl) dL_sign6_141 ⟨by rw [hTX, List.append_assoc, gd_r (show 5 ≤ p by omega)]; show _ = nI ((X ++ [41]).getD (p - 5) 0); rw [gd_l (show p - 5 < X.length by omega)], rfl⟩
    · have c106 := (nk_ge_f (a := p) 5 (by decide) (by omega) (by decide)).mp c106
      refine v_iload_n C 4 rfl dL_sign6_114 rfl ?_
      refine v_iload C 2 rfl dL_sign6_115 ?_
      refine v_iload_n C 6 rfl dL_sign6_117 rfl ?_
      refine v_callS (rest := []) C (c_L_front_8 l hl G (F (4 * k + 2)) p h (by omega)) S_L_47 rfl rfl (Nat.le_of_ble_eq_true rfl) ⟨Nat.le_of_ble_eq_true rfl, Nat.le_of_ble_eq_true rfl⟩ ⟨Nat.le_of_ble_eq_true rfl, Nat.le_of_ble_eq_true rfl⟩ dL_sign6_118 (fun i117 h117 q117 => ?_)
      obtain ⟨e117, rfl⟩ := q117; subst e117
      exact v_iret C hQ hr rfl (Nat.le_of_ble_eq_true rfl) (Nat.le_of_ble_eq_true rfl) dL_sign6_121 ⟨by rw [hTX, List.append_assoc, gd_l (show p < 5 by omega)], rfl⟩

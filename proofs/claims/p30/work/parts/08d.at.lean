set_option maxHeartbeats 4000000 in
set_option maxRecDepth 100000 in
theorem c_L_at1 (l : Launch) (hl : l.stackTraces = false) (G : zG) (fa aa da k q M : Nat) (F : Nat → Nat) (A D : Nat → Int32) (T : Nat → List Tok) (lv : Nat → Nat) (s : ZS) (h : zH) (hw : WFs s) (he : EV s F A D T lv M) (hF : iC G h fa 60 (fN F)) (hA : iC G h aa 60 A) (hk : k < M) (hv : lv k ≤ 1) (hq : q < 9) : zMet eL l yL_at1 cL_at1 4 (some .long) 12 0 0 G [.int (nI k), .int (nI q), .ref fa, .ref aa] h (fun r h2 => r = rowOf (oAL s) (oV s) (T k) q ∧ h = h2) := by
  refine con_of hl RL rfl (by decide +kernel) [(0, .int (nI k)), (1, .int (nI q)), (2, .ref fa), (3, .ref aa)] rfl (Nat.le_of_ble_eq_true rfl) ?_
  intro zp ze zs zm zargs zbelow zmeth zc C hr hin Q hQ
  have hM := he.1
  have hN6 := he.2.1
  obtain ⟨l1, l6, l3, hFE⟩ := he.2.2.1 k hk
  rcases hFE with ⟨f0, f1, fT, fl⟩ | ⟨f0, f1, fT, fl⟩ | ⟨f0, f1, fT, fl⟩ | ⟨f0, f1, f2, fT, fl⟩ | ⟨f0, f1, f2, fT, fl⟩ | ⟨f0, f1, fT, fl⟩
  · refine v_aload_n C 2 rfl dL_at1_0 rfl ?_
    refine v_iconst (v := 4) C dL_at1_1 (by decide) ?_
    refine v_iload_n C 0 rfl dL_at1_2 rfl ?_
    refine v_imul C dL_at1_3 (v_eqi (nI_kml k 4 (by decide)) ?_)
    refine v_iald C hF (vpin (show 4 * k < 60 by omega) (by decide)) dL_at1_4 (v_eqi (y := nI 4) ((congrArg (fun j => nI (F j)) (nI_clamp (show 4 * k < 2 ^ 31 by omega))).trans (congrArg nI f0)) ?_)
    refine v_iconst (v := 4) C dL_at1_5 (by decide) ?_
    refine v_icmp_ne (tgt := 27) C dL_at1_6 (by decide) (fun c2 => absurd c2 (by decide)) (fun c2 => ?_)
    refine v_aload_n C 3 rfl dL_at1_9 rfl ?_
    refine v_bipush (v := 10) C dL_at1_10 (by decide) ?_
    refine v_aload_n C 2 rfl dL_at1_12 rfl ?_
    refine v_iconst (v := 4) C dL_at1_13 (by decide) ?_
    refine v_iload_n C 0 rfl dL_at1_14 rfl ?_
    refine v_imul C dL_at1_15 (v_eqi (nI_kml k 4 (by decide)) ?_)
    refine v_iconst (v := 1) C dL_at1_16 (by decide) ?_
    refine v_iadd C dL_at1_17 (v_eqi (nI_adk (4 * k) 1 (by decide)) ?_)
    refine v_iald C hF (vpin (show 4 * k + 1 < 60 by omega) (by decide)) dL_at1_18 (v_eqi (y := nI (F (4 * k + 1))) (congrArg (fun j => nI (F j)) (nI_clamp (show 4 * k + 1 < 2 ^ 31 by omega))) ?_)
    refine v_imul C dL_at1_19 (v_eqi (nI_kml (F (4 * k + 1)) 10 (by decide)) ?_)
    refine v_iload_n C 1 rfl dL_at1_20 rfl ?_
    refine v_iadd C dL_at1_21 (v_eqi (nI_add (10 * (F (4 * k + 1))) q) ?_)
    refine v_iald C hA (vpin (show 10 * (F (4 * k + 1)) + q < 60 by omega) (by decide)) dL_at1_22 (v_eqi (y := (oA s (F (4 * k + 1)) q)) ((congrArg A (nI_clamp (show 10 * (F (4 * k + 1)) + q < 2 ^ 31 by omega))).trans (he.2.2.2.1 _ _ f1 hq)) ?_)
    refine v_i2l (v := ((oA s (F (4 * k + 1)) q) : Int32).toInt64) C dL_at1_23 rfl ?_
    refine v_goto (tgt := 35) C dL_at1_24 (by decide) ?_
    exact v_lret C hQ hr (Nat.le_of_ble_eq_true rfl) (Nat.le_of_ble_eq_true rfl) dL_at1_35 ⟨by rw [fT]; rfl, rfl⟩
  · refine v_aload_n C 2 rfl dL_at1_0 rfl ?_
    refine v_iconst (v := 4) C dL_at1_1 (by decide) ?_
    refine v_iload_n C 0 rfl dL_at1_2 rfl ?_
    refine v_imul C dL_at1_3 (v_eqi (nI_kml k 4 (by decide)) ?_)
    refine v_iald C hF (vpin (show 4 * k < 60 by omega) (by decide)) dL_at1_4 (v_eqi (y := nI 5) ((congrArg (fun j => nI (F j)) (nI_clamp (show 4 * k < 2 ^ 31 by omega))).trans (congrArg nI f0)) ?_)
    refine v_iconst (v := 4) C dL_at1_5 (by decide) ?_
    refine v_icmp_ne (tgt := 27) C dL_at1_6 (by decide) (fun c8 => ?_) (fun c8 => absurd c8 (by decide))
    refine v_aload_n C 2 rfl dL_at1_27 rfl ?_
    refine v_iconst (v := 4) C dL_at1_28 (by decide) ?_
    refine v_iload_n C 0 rfl dL_at1_29 rfl ?_
    refine v_imul C dL_at1_30 (v_eqi (nI_kml k 4 (by decide)) ?_)
    refine v_iconst (v := 1) C dL_at1_31 (by decide) ?_
    refine v_iadd C dL_at1_32 (v_eqi (nI_adk (4 * k) 1 (by decide)) ?_)
    refine v_iald C hF (vpin (show 4 * k + 1 < 60 by omega) (by decide)) dL_at1_33 (v_eqi (y := nI (F (4 * k + 1))) (congrArg (fun j => nI (F j)) (nI_clamp (show 4 * k + 1 < 2 ^ 31 by omega))) ?_)
    refine v_i2l (v := lN64 (F (4 * k + 1))) C dL_at1_34 rfl ?_
    exact v_lret C hQ hr (Nat.le_of_ble_eq_true rfl) (Nat.le_of_ble_eq_true rfl) dL_at1_35 ⟨by rw [fT]; rfl, rfl⟩
  · exact absurd (EV.tl he hw f1) (by omega)
  · exact absurd (he.lv1 (k := F (4 * k + 1)) (by omega)) (by omega)
  · exact absurd (he.lv1 (k := F (4 * k + 1)) (by omega)) (by omega)
  · exact absurd (he.lv1 (k := F (4 * k + 1)) (by omega)) (by omega)
set_option maxHeartbeats 4000000 in
set_option maxRecDepth 100000 in
theorem c_L_at2 (l : Launch) (hl : l.stackTraces = false) (G : zG) (fa aa da k q M : Nat) (F : Nat → Nat) (A D : Nat → Int32) (T : Nat → List Tok) (lv : Nat → Nat) (s : ZS) (h : zH) (hw : WFs s) (he : EV s F A D T lv M) (hF : iC G h fa 60 (fN F)) (hA : iC G h aa 60 A) (hD : iC G h da 60 D) (hk : k < M) (hv : lv k ≤ 2) (hq : q < 9) : zMet eL l yL_at2 cL_at2 11 (some .long) 13 0 0 G [.int (nI k), .int (nI q), .ref fa, .ref aa, .ref da] h (fun r h2 => r = rowOf (oAL s) (oV s) (T k) q ∧ h = h2) := by
  refine con_of hl RL rfl (by decide +kernel) [(0, .int (nI k)), (1, .int (nI q)), (2, .ref fa), (3, .ref aa), (4, .ref da)] rfl (Nat.le_of_ble_eq_true rfl) ?_
  intro zp ze zs zm zargs zbelow zmeth zc C hr hin Q hQ
  have hM := he.1
  have hN6 := he.2.1
  obtain ⟨l1, l6, l3, hFE⟩ := he.2.2.1 k hk
  rcases hFE with ⟨f0, f1, fT, fl⟩ | ⟨f0, f1, fT, fl⟩ | ⟨f0, f1, fT, fl⟩ | ⟨f0, f1, f2, fT, fl⟩ | ⟨f0, f1, f2, fT, fl⟩ | ⟨f0, f1, fT, fl⟩
  · refine v_aload_n C 2 rfl dL_at2_0 rfl ?_
    refine v_iconst (v := 4) C dL_at2_1 (by decide) ?_
    refine v_iload_n C 0 rfl dL_at2_2 rfl ?_
    refine v_imul C dL_at2_3 (v_eqi (nI_kml k 4 (by decide)) ?_)
    refine v_iald C hF (vpin (show 4 * k < 60 by omega) (by decide)) dL_at2_4 (v_eqi (y := nI 4) ((congrArg (fun j => nI (F j)) (nI_clamp (show 4 * k < 2 ^ 31 by omega))).trans (congrArg nI f0)) ?_)
    refine v_istore C [(5, .int (nI 4)), (0, .int (nI k)), (1, .int (nI q)), (2, .ref fa), (3, .ref aa), (4, .ref da)] rfl (by decide) dL_at2_5 ?_
    refine v_aload_n C 3 rfl dL_at2_7 rfl ?_
    refine v_iconst (v := 4) C dL_at2_8 (by decide) ?_
    refine v_iload_n C 1 rfl dL_at2_9 rfl ?_
    refine v_imul C dL_at2_10 (v_eqi (nI_kml k 4 (by decide)) ?_)
    refine v_iconst (v := 1) C dL_at2_11 (by decide) ?_
    refine v_iadd C dL_at2_12 (v_eqi (nI_adk (4 * k) 1 (by decide)) ?_)
    refine v_iald C hF (vpin (show 4 * k + 1 < 60 by omega) (by decide)) dL_at2_13 (v_eqi (y := nI (F (4 * k + 1))) (congrArg (fun j => nI (F j)) (nI_clamp (show 4 * k + 1 < 2 ^ 31 by omega))) ?_)
    refine v_istore C [(6, .int (nI (F (4 * k + 1)))), (5, .int (nI 4)), (0, .int (nI k)), (1, .int (nI q)), (2, .ref fa), (3, .ref aa), (4, .ref da)] rfl (by decide) dL_at2_14 ?_
    refine v_aload_n C 4 rfl dL_at2_16 rfl ?_
    refine v_iconst (v := 4) C dL_at2_17 (by decide) ?_
    refine v_iload_n C 2 rfl dL_at2_18 rfl ?_
    refine v_imul C dL_at2_19 (v_eqi (nI_kml k 4 (by decide)) ?_)
    refine v_iconst (v := 2) C dL_at2_20 (by decide) ?_
    refine v_iadd C dL_at2_21 (v_eqi (nI_adk (4 * k) 2 (by decide)) ?_)
    refine v_iald C hF (vpin (show 4 * k + 2 < 60 by omega) (by decide)) dL_at2_22 (v_eqi (y := nI (F (4 * k + 2))) (congrArg (fun j => nI (F j)) (nI_clamp (show 4 * k + 2 < 2 ^ 31 by omega))) ?_)
    refine v_istore C [(7, .int (nI (F (4 * k + 2)))), (6, .int (nI (F (4 * k + 1)))), (5, .int (nI 4)), (0, .int (nI k)), (1, .int (nI q)), (2, .ref fa), (3, .ref aa), (4, .ref da)] rfl (by decide) dL_at2_23 ?_
    refine v_iload C 2 rfl dL_at2_25 ?_
    refine v_iconst (v := 4) C dL_at2_27 (by decide) ?_
    refine v_icmp_eq (tgt := 37) C dL_at2_28 (by decide) (fun c6 => ?_) (fun c6 => absurd c6 (by decide))
    refine v_iload_n C 3 rfl dL_at2_37 rfl ?_
    refine v_iload_n C 4 rfl dL_at2_38 rfl ?_
    refine v_aload_n C 5 rfl dL_at2_39 rfl ?_
    refine v_aload_n C 6 rfl dL_at2_40 rfl ?_
    refine v_callS (rest := []) C (c_L_at1 l hl G fa aa da k q M F A D T lv s h hw he hF hA hk (by omega) hq) S_L_22 rfl rfl (Nat.le_of_ble_eq_true rfl) ⟨Nat.le_of_ble_eq_true rfl, Nat.le_of_ble_eq_true rfl⟩ ⟨Nat.le_of_ble_eq_true rfl, Nat.le_of_ble_eq_true rfl⟩ dL_at2_41 (fun l7 h7 q7 => ?_)
    obtain ⟨e7, rfl⟩ := q7; subst e7
    exact v_lret C hQ hr (Nat.le_of_ble_eq_true rfl) (Nat.le_of_ble_eq_true rfl) dL_at2_44 ⟨rfl, rfl⟩
  · refine v_aload_n C 2 rfl dL_at2_0 rfl ?_
    refine v_iconst (v := 4) C dL_at2_1 (by decide) ?_
    refine v_iload_n C 0 rfl dL_at2_2 rfl ?_
    refine v_imul C dL_at2_3 (v_eqi (nI_kml k 4 (by decide)) ?_)
    refine v_iald C hF (vpin (show 4 * k < 60 by omega) (by decide)) dL_at2_4 (v_eqi (y := nI 5) ((congrArg (fun j => nI (F j)) (nI_clamp (show 4 * k < 2 ^ 31 by omega))).trans (congrArg nI f0)) ?_)
    refine v_istore C [(5, .int (nI 5)), (0, .int (nI k)), (1, .int (nI q)), (2, .ref fa), (3, .ref aa), (4, .ref da)] rfl (by decide) dL_at2_5 ?_
    refine v_aload_n C 3 rfl dL_at2_7 rfl ?_
    refine v_iconst (v := 4) C dL_at2_8 (by decide) ?_
    refine v_iload_n C 1 rfl dL_at2_9 rfl ?_
    refine v_imul C dL_at2_10 (v_eqi (nI_kml k 4 (by decide)) ?_)
    refine v_iconst (v := 1) C dL_at2_11 (by decide) ?_
    refine v_iadd C dL_at2_12 (v_eqi (nI_adk (4 * k) 1 (by decide)) ?_)
    refine v_iald C hF (vpin (show 4 * k + 1 < 60 by omega) (by decide)) dL_at2_13 (v_eqi (y := nI (F (4 * k + 1))) (congrArg (fun j => nI (F j)) (nI_clamp (show 4 * k + 1 < 2 ^ 31 by omega))) ?_)
    refine v_istore C [(6, .int (nI (F (4 * k + 1)))), (5, .int (nI 5)), (0, .int (nI k)), (1, .int (nI q)), (2, .ref fa), (3, .ref aa), (4, .ref da)] rfl (by decide) dL_at2_14 ?_
    refine v_aload_n C 4 rfl dL_at2_16 rfl ?_
    refine v_iconst (v := 4) C dL_at2_17 (by decide) ?_
    refine v_iload_n C 2 rfl dL_at2_18 rfl ?_
    refine v_imul C dL_at2_19 (v_eqi (nI_kml k 4 (by decide)) ?_)
    refine v_iconst (v := 2) C dL_at2_20 (by decide) ?_
    refine v_iadd C dL_at2_21 (v_eqi (nI_adk (4 * k) 2 (by decide)) ?_)
    refine v_iald C hF (vpin (show 4 * k + 2 < 60 by omega) (by decide)) dL_at2_22 (v_eqi (y := nI (F (4 * k + 2))) (congrArg (fun j => nI (F j)) (nI_clamp (show 4 * k + 2 < 2 ^ 31 by omega))) ?_)
    refine v_istore C [(7, .int (nI (F (4 * k + 2)))), (6, .int (nI (F (4 * k + 1)))), (5, .int (nI 5)), (0, .int (nI k)), (1, .int (nI q)), (2, .ref fa), (3, .ref aa), (4, .ref da)] rfl (by decide) dL_at2_23 ?_
    refine v_iload C 2 rfl dL_at2_25 ?_
    refine v_iconst (v := 4) C dL_at2_27 (by decide) ?_
    refine v_icmp_eq (tgt := 37) C dL_at2_28 (by decide) (fun c13 => absurd c13 (by decide)) (fun c13 => ?_)
    refine v_iload C 2 rfl dL_at2_31 ?_
    refine v_iconst (v := 5) C dL_at2_33 (by decide) ?_
    refine v_icmp_ne (tgt := 45) C dL_at2_34 (by decide) (fun c14 => absurd c14 (by decide)) (fun c14 => ?_)
    refine v_iload_n C 3 rfl dL_at2_37 rfl ?_
    refine v_iload_n C 4 rfl dL_at2_38 rfl ?_
    refine v_aload_n C 5 rfl dL_at2_39 rfl ?_
    refine v_aload_n C 6 rfl dL_at2_40 rfl ?_
    refine v_callS (rest := []) C (c_L_at1 l hl G fa aa da k q M F A D T lv s h hw he hF hA hk (by omega) hq) S_L_22 rfl rfl (Nat.le_of_ble_eq_true rfl) ⟨Nat.le_of_ble_eq_true rfl, Nat.le_of_ble_eq_true rfl⟩ ⟨Nat.le_of_ble_eq_true rfl, Nat.le_of_ble_eq_true rfl⟩ dL_at2_41 (fun l15 h15 q15 => ?_)
    obtain ⟨e15, rfl⟩ := q15; subst e15
    exact v_lret C hQ hr (Nat.le_of_ble_eq_true rfl) (Nat.le_of_ble_eq_true rfl) dL_at2_44 ⟨rfl, rfl⟩
  · refine v_aload_n C 2 rfl dL_at2_0 rfl ?_
    refine v_iconst (v := 4) C dL_at2_1 (by decide) ?_
    refine v_iload_n C 0 rfl dL_at2_2 rfl ?_
    refine v_imul C dL_at2_3 (v_eqi (nI_kml k 4 (by decide)) ?_)
    refine v_iald C hF (vpin (show 4 * k < 60 by omega) (by decide)) dL_at2_4 (v_eqi (y := nI 6) ((congrArg (fun j => nI (F j)) (nI_clamp (show 4 * k < 2 ^ 31 by omega))).trans (congrArg nI f0)) ?_)
    refine v_istore C [(5, .int (nI 6)), (0, .int (nI k)), (1, .int (nI q)), (2, .ref fa), (3, .ref aa), (4, .ref da)] rfl (by decide) dL_at2_5 ?_
    refine v_aload_n C 3 rfl dL_at2_7 rfl ?_
    refine v_iconst (v := 4) C dL_at2_8 (by decide) ?_
    refine v_iload_n C 1 rfl dL_at2_9 rfl ?_
    refine v_imul C dL_at2_10 (v_eqi (nI_kml k 4 (by decide)) ?_)
    refine v_iconst (v := 1) C dL_at2_11 (by decide) ?_
    refine v_iadd C dL_at2_12 (v_eqi (nI_adk (4 * k) 1 (by decide)) ?_)
    refine v_iald C hF (vpin (show 4 * k + 1 < 60 by omega) (by decide)) dL_at2_13 (v_eqi (y := nI (F (4 * k + 1))) (congrArg (fun j => nI (F j)) (nI_clamp (show 4 * k + 1 < 2 ^ 31 by omega))) ?_)
    refine v_istore C [(6, .int (nI (F (4 * k + 1)))), (5, .int (nI 6)), (0, .int (nI k)), (1, .int (nI q)), (2, .ref fa), (3, .ref aa), (4, .ref da)] rfl (by decide) dL_at2_14 ?_
    refine v_aload_n C 4 rfl dL_at2_16 rfl ?_
    refine v_iconst (v := 4) C dL_at2_17 (by decide) ?_
    refine v_iload_n C 2 rfl dL_at2_18 rfl ?_
    refine v_imul C dL_at2_19 (v_eqi (nI_kml k 4 (by decide)) ?_)
    refine v_iconst (v := 2) C dL_at2_20 (by decide) ?_
    refine v_iadd C dL_at2_21 (v_eqi (nI_adk (4 * k) 2 (by decide)) ?_)
    refine v_iald C hF (vpin (show 4 * k + 2 < 60 by omega) (by decide)) dL_at2_22 (v_eqi (y := nI (F (4 * k + 2))) (congrArg (fun j => nI (F j)) (nI_clamp (show 4 * k + 2 < 2 ^ 31 by omega))) ?_)
    refine v_istore C [(7, .int (nI (F (4 * k + 2)))), (6, .int (nI (F (4 * k + 1)))), (5, .int (nI 6)), (0, .int (nI k)), (1, .int (nI q)), (2, .ref fa), (3, .ref aa), (4, .ref da)] rfl (by decide) dL_at2_23 ?_
    refine v_iload C 2 rfl dL_at2_25 ?_
    refine v_iconst (v := 4) C dL_at2_27 (by decide) ?_
    refine v_icmp_eq (tgt := 37) C dL_at2_28 (by decide) (fun c21 => absurd c21 (by decide)) (fun c21 => ?_)
    refine v_iload C 2 rfl dL_at2_31 ?_
    refine v_iconst (v := 5) C dL_at2_33 (by decide) ?_
    refine v_icmp_ne (tgt := 45) C dL_at2_34 (by decide) (fun c22 => ?_) (fun c22 => absurd c22 (by decide))
    refine v_iload C 2 rfl dL_at2_45 ?_
    refine v_bipush (v := 6) C dL_at2_47 (by decide) ?_
    refine v_icmp_ne (tgt := 67) C dL_at2_49 (by decide) (fun c23 => absurd c23 (by decide)) (fun c23 => ?_)
    refine v_iload C 1 rfl dL_at2_52 ?_
    refine v_iload_n C 4 rfl dL_at2_54 rfl ?_
    refine v_aload C 7 rfl dL_at2_55 ?_
    obtain ⟨k2, hk2, hh2, hv2, -, ho2⟩ := he.held hw f1 (q := q) (by omega)
    refine v_callS (rest := []) C (c_L_holds l hl G (F (4 * k + 1)) q da D h hD (by omega) (by omega) (EV.d0 he hw f1)) S_L_26 rfl rfl (Nat.le_of_ble_eq_true rfl) ⟨Nat.le_of_ble_eq_true rfl, Nat.le_of_ble_eq_true rfl⟩ ⟨Nat.le_of_ble_eq_true rfl, Nat.le_of_ble_eq_true rfl⟩ dL_at2_57 (fun i24 h24 q24 => ?_)
    obtain ⟨e24, rfl⟩ := q24; rw [hh2] at e24; subst e24
    refine v_iload_n C 4 rfl dL_at2_60 rfl ?_
    refine v_aload_n C 5 rfl dL_at2_61 rfl ?_
    refine v_aload_n C 6 rfl dL_at2_62 rfl ?_
    refine v_callS (rest := []) C (c_L_at1 l hl G fa aa da k2 q M F A D T lv s h hw he hF hA hk2 (by omega) hq) S_L_22 rfl rfl (Nat.le_of_ble_eq_true rfl) ⟨Nat.le_of_ble_eq_true rfl, Nat.le_of_ble_eq_true rfl⟩ ⟨Nat.le_of_ble_eq_true rfl, Nat.le_of_ble_eq_true rfl⟩ dL_at2_63 (fun l25 h25 q25 => ?_)
    obtain ⟨e25, rfl⟩ := q25; subst e25
    exact v_lret C hQ hr (Nat.le_of_ble_eq_true rfl) (Nat.le_of_ble_eq_true rfl) dL_at2_66 ⟨by rw [fT]; exact ho2.symm, rfl⟩
  · refine v_aload_n C 2 rfl dL_at2_0 rfl ?_
    refine v_iconst (v := 4) C dL_at2_1 (by decide) ?_
    refine v_iload_n C 0 rfl dL_at2_2 rfl ?_
    refine v_imul C dL_at2_3 (v_eqi (nI_kml k 4 (by decide)) ?_)
    refine v_iald C hF (vpin (show 4 * k < 60 by omega) (by decide)) dL_at2_4 (v_eqi (y := nI (F (4 * k))) ((congrArg (fun j => nI (F j)) (nI_clamp (show 4 * k < 2 ^ 31 by omega))).trans (congrArg nI rfl)) ?_)
    refine v_istore C [(5, .int (nI (F (4 * k)))), (0, .int (nI k)), (1, .int (nI q)), (2, .ref fa), (3, .ref aa), (4, .ref da)] rfl (by decide) dL_at2_5 ?_
    refine v_aload_n C 3 rfl dL_at2_7 rfl ?_
    refine v_iconst (v := 4) C dL_at2_8 (by decide) ?_
    refine v_iload_n C 1 rfl dL_at2_9 rfl ?_
    refine v_imul C dL_at2_10 (v_eqi (nI_kml k 4 (by decide)) ?_)
    refine v_iconst (v := 1) C dL_at2_11 (by decide) ?_
    refine v_iadd C dL_at2_12 (v_eqi (nI_adk (4 * k) 1 (by decide)) ?_)
    refine v_iald C hF (vpin (show 4 * k + 1 < 60 by omega) (by decide)) dL_at2_13 (v_eqi (y := nI (F (4 * k + 1))) (congrArg (fun j => nI (F j)) (nI_clamp (show 4 * k + 1 < 2 ^ 31 by omega))) ?_)
    refine v_istore C [(6, .int (nI (F (4 * k + 1)))), (5, .int (nI (F (4 * k)))), (0, .int (nI k)), (1, .int (nI q)), (2, .ref fa), (3, .ref aa), (4, .ref da)] rfl (by decide) dL_at2_14 ?_
    refine v_aload_n C 4 rfl dL_at2_16 rfl ?_
    refine v_iconst (v := 4) C dL_at2_17 (by decide) ?_
    refine v_iload_n C 2 rfl dL_at2_18 rfl ?_
    refine v_imul C dL_at2_19 (v_eqi (nI_kml k 4 (by decide)) ?_)
    refine v_iconst (v := 2) C dL_at2_20 (by decide) ?_
    refine v_iadd C dL_at2_21 (v_eqi (nI_adk (4 * k) 2 (by decide)) ?_)
    refine v_iald C hF (vpin (show 4 * k + 2 < 60 by omega) (by decide)) dL_at2_22 (v_eqi (y := nI (F (4 * k + 2))) (congrArg (fun j => nI (F j)) (nI_clamp (show 4 * k + 2 < 2 ^ 31 by omega))) ?_)
    refine v_istore C [(7, .int (nI (F (4 * k + 2)))), (6, .int (nI (F (4 * k + 1)))), (5, .int (nI (F (4 * k)))), (0, .int (nI k)), (1, .int (nI q)), (2, .ref fa), (3, .ref aa), (4, .ref da)] rfl (by decide) dL_at2_23 ?_
    refine v_iload C 2 rfl dL_at2_25 ?_
    refine v_iconst (v := 4) C dL_at2_27 (by decide) ?_
    refine v_icmp_eq (tgt := 37) C dL_at2_28 (by decide) (fun c31 => absurd ((nk_eq (a := F (4 * k)) 4 (by decide) (by omega) (by decide)).mp c31) (by omega)) (fun c31 => ?_)
    have c31 := (nk_eq_f (a := (F (4 * k))) 4 (by decide) (by omega) (by decide)).mp c31
    refine v_iload C 2 rfl dL_at2_31 ?_
    refine v_iconst (v := 5) C dL_at2_33 (by decide) ?_
    refine v_icmp_ne (tgt := 45) C dL_at2_34 (by decide) (fun c32 => ?_) (fun c32 => absurd ((nk_ne_f (a := F (4 * k)) 5 (by decide) (by omega) (by decide)).mp c32) (by omega))
    have c32 := (nk_ne (a := (F (4 * k))) 5 (by decide) (by omega) (by decide)).mp c32
    refine v_iload C 2 rfl dL_at2_45 ?_
    refine v_bipush (v := 6) C dL_at2_47 (by decide) ?_
    refine v_icmp_ne (tgt := 67) C dL_at2_49 (by decide) (fun c33 => ?_) (fun c33 => absurd ((nk_ne_f (a := F (4 * k)) 6 (by decide) (by omega) (by decide)).mp c33) (by omega))
    have c33 := (nk_ne (a := (F (4 * k))) 6 (by decide) (by omega) (by decide)).mp c33
    refine v_iload C 1 rfl dL_at2_67 ?_
    refine v_iload_n C 4 rfl dL_at2_69 rfl ?_
    refine v_aload_n C 5 rfl dL_at2_70 rfl ?_
    refine v_aload_n C 6 rfl dL_at2_71 rfl ?_
    refine v_callS (rest := []) C (c_L_at1 l hl G fa aa da (F (4 * k + 1)) q M F A D T lv s h hw he hF hA (show F (4 * k + 1) < M by omega) (show lv (F (4 * k + 1)) ≤ 1 by omega) (by omega)) S_L_22 rfl rfl (Nat.le_of_ble_eq_true rfl) ⟨Nat.le_of_ble_eq_true rfl, Nat.le_of_ble_eq_true rfl⟩ ⟨Nat.le_of_ble_eq_true rfl, Nat.le_of_ble_eq_true rfl⟩ dL_at2_72 (fun l34 h34 q34 => ?_)
    obtain ⟨e34, rfl⟩ := q34; subst e34
    refine v_lstore C [(8, .long (rowOf (oAL s) (oV s) (T (F (4 * k + 1))) q)), (7, .int (nI (F (4 * k + 2)))), (6, .int (nI (F (4 * k + 1)))), (5, .int (nI (F (4 * k)))), (0, .int (nI k)), (1, .int (nI q)), (2, .ref fa), (3, .ref aa), (4, .ref da)] rfl (by decide) dL_at2_75 ?_
    refine v_iload C 3 rfl dL_at2_77 ?_
    refine v_bipush (v := 7) C dL_at2_79 (by decide) ?_
    refine v_icmp_ne (tgt := 97) C dL_at2_81 (by decide) (fun c35 => ?_) (fun c35 => absurd ((nk_ne_f (a := F (4 * k)) 7 (by decide) (by omega) (by decide)).mp c35) (by omega))
    have c35 := (nk_ne (a := (F (4 * k))) 7 (by decide) (by omega) (by decide)).mp c35
    refine v_iload C 3 rfl dL_at2_97 ?_
    refine v_bipush (v := 8) C dL_at2_99 (by decide) ?_
    refine v_icmp_ne (tgt := 144) C dL_at2_101 (by decide) (fun c36 => ?_) (fun c36 => absurd ((nk_ne_f (a := F (4 * k)) 8 (by decide) (by omega) (by decide)).mp c36) (by omega))
    have c36 := (nk_ne (a := (F (4 * k))) 8 (by decide) (by omega) (by decide)).mp c36
    refine v_iload C 3 rfl dL_at2_144 ?_
    refine v_lload C 0 rfl dL_at2_146 ?_
    refine v_iload C 1 rfl dL_at2_148 ?_
    refine v_iload_n C 5 rfl dL_at2_150 rfl ?_
    refine v_aload_n C 6 rfl dL_at2_151 rfl ?_
    refine v_aload_n C 7 rfl dL_at2_152 rfl ?_
    refine v_callS (rest := [.long (rowOf (oAL s) (oV s) (T (F (4 * k + 1))) q), .int (nI (F (4 * k)))]) C (c_L_at1 l hl G fa aa da (F (4 * k + 2)) q M F A D T lv s h hw he hF hA (show F (4 * k + 2) < M by omega) (show lv (F (4 * k + 2)) ≤ 1 by omega) (by omega)) S_L_22 rfl rfl (Nat.le_of_ble_eq_true rfl) ⟨Nat.le_of_ble_eq_true rfl, Nat.le_of_ble_eq_true rfl⟩ ⟨Nat.le_of_ble_eq_true rfl, Nat.le_of_ble_eq_true rfl⟩ dL_at2_153 (fun l37 h37 q37 => ?_)
    obtain ⟨e37, rfl⟩ := q37; subst e37
    refine v_callS (rest := []) C (c_L_join l hl G (F (4 * k)) (rowOf (oAL s) (oV s) (T (F (4 * k + 1))) q) (rowOf (oAL s) (oV s) (T (F (4 * k + 2))) q) h f0) S_L_36 rfl rfl (Nat.le_of_ble_eq_true rfl) ⟨Nat.le_of_ble_eq_true rfl, Nat.le_of_ble_eq_true rfl⟩ ⟨Nat.le_of_ble_eq_true rfl, Nat.le_of_ble_eq_true rfl⟩ dL_at2_156 (fun l38 h38 q38 => ?_)
    obtain ⟨e38, rfl⟩ := q38; subst e38
    exact v_lret C hQ hr (Nat.le_of_ble_eq_true rfl) (Nat.le_of_ble_eq_true rfl) dL_at2_159 ⟨by rw [fT, row_join (he.w6 hw (k := F (4 * k + 1)) (by omega)) (he.w6 hw (k := F (4 * k + 2)) (by omega)) f0], rfl⟩
  · refine v_aload_n C 2 rfl dL_at2_0 rfl ?_
    refine v_iconst (v := 4) C dL_at2_1 (by decide) ?_
    refine v_iload_n C 0 rfl dL_at2_2 rfl ?_
    refine v_imul C dL_at2_3 (v_eqi (nI_kml k 4 (by decide)) ?_)
    refine v_iald C hF (vpin (show 4 * k < 60 by omega) (by decide)) dL_at2_4 (v_eqi (y := nI 7) ((congrArg (fun j => nI (F j)) (nI_clamp (show 4 * k < 2 ^ 31 by omega))).trans (congrArg nI f0)) ?_)
    refine v_istore C [(5, .int (nI 7)), (0, .int (nI k)), (1, .int (nI q)), (2, .ref fa), (3, .ref aa), (4, .ref da)] rfl (by decide) dL_at2_5 ?_
    refine v_aload_n C 3 rfl dL_at2_7 rfl ?_
    refine v_iconst (v := 4) C dL_at2_8 (by decide) ?_
    refine v_iload_n C 1 rfl dL_at2_9 rfl ?_
    refine v_imul C dL_at2_10 (v_eqi (nI_kml k 4 (by decide)) ?_)
    refine v_iconst (v := 1) C dL_at2_11 (by decide) ?_
    refine v_iadd C dL_at2_12 (v_eqi (nI_adk (4 * k) 1 (by decide)) ?_)
    refine v_iald C hF (vpin (show 4 * k + 1 < 60 by omega) (by decide)) dL_at2_13 (v_eqi (y := nI (F (4 * k + 1))) (congrArg (fun j => nI (F j)) (nI_clamp (show 4 * k + 1 < 2 ^ 31 by omega))) ?_)
    refine v_istore C [(6, .int (nI (F (4 * k + 1)))), (5, .int (nI 7)), (0, .int (nI k)), (1, .int (nI q)), (2, .ref fa), (3, .ref aa), (4, .ref da)] rfl (by decide) dL_at2_14 ?_
    refine v_aload_n C 4 rfl dL_at2_16 rfl ?_
    refine v_iconst (v := 4) C dL_at2_17 (by decide) ?_
    refine v_iload_n C 2 rfl dL_at2_18 rfl ?_
    refine v_imul C dL_at2_19 (v_eqi (nI_kml k 4 (by decide)) ?_)
    refine v_iconst (v := 2) C dL_at2_20 (by decide) ?_
    refine v_iadd C dL_at2_21 (v_eqi (nI_adk (4 * k) 2 (by decide)) ?_)
    refine v_iald C hF (vpin (show 4 * k + 2 < 60 by omega) (by decide)) dL_at2_22 (v_eqi (y := nI (F (4 * k + 2))) (congrArg (fun j => nI (F j)) (nI_clamp (show 4 * k + 2 < 2 ^ 31 by omega))) ?_)
    refine v_istore C [(7, .int (nI (F (4 * k + 2)))), (6, .int (nI (F (4 * k + 1)))), (5, .int (nI 7)), (0, .int (nI k)), (1, .int (nI q)), (2, .ref fa), (3, .ref aa), (4, .ref da)] rfl (by decide) dL_at2_23 ?_
    refine v_iload C 2 rfl dL_at2_25 ?_
    refine v_iconst (v := 4) C dL_at2_27 (by decide) ?_
    refine v_icmp_eq (tgt := 37) C dL_at2_28 (by decide) (fun c44 => absurd c44 (by decide)) (fun c44 => ?_)
    refine v_iload C 2 rfl dL_at2_31 ?_
    refine v_iconst (v := 5) C dL_at2_33 (by decide) ?_
    refine v_icmp_ne (tgt := 45) C dL_at2_34 (by decide) (fun c45 => ?_) (fun c45 => absurd c45 (by decide))
    refine v_iload C 2 rfl dL_at2_45 ?_
    refine v_bipush (v := 6) C dL_at2_47 (by decide) ?_
    refine v_icmp_ne (tgt := 67) C dL_at2_49 (by decide) (fun c46 => ?_) (fun c46 => absurd c46 (by decide))
    refine v_iload C 1 rfl dL_at2_67 ?_
    refine v_iload_n C 4 rfl dL_at2_69 rfl ?_
    refine v_aload_n C 5 rfl dL_at2_70 rfl ?_
    refine v_aload_n C 6 rfl dL_at2_71 rfl ?_
    refine v_callS (rest := []) C (c_L_at1 l hl G fa aa da (F (4 * k + 1)) q M F A D T lv s h hw he hF hA (show F (4 * k + 1) < M by omega) (show lv (F (4 * k + 1)) ≤ 1 by omega) (by omega)) S_L_22 rfl rfl (Nat.le_of_ble_eq_true rfl) ⟨Nat.le_of_ble_eq_true rfl, Nat.le_of_ble_eq_true rfl⟩ ⟨Nat.le_of_ble_eq_true rfl, Nat.le_of_ble_eq_true rfl⟩ dL_at2_72 (fun l47 h47 q47 => ?_)
    obtain ⟨e47, rfl⟩ := q47; subst e47
    refine v_lstore C [(8, .long (rowOf (oAL s) (oV s) (T (F (4 * k + 1))) q)), (7, .int (nI (F (4 * k + 2)))), (6, .int (nI (F (4 * k + 1)))), (5, .int (nI 7)), (0, .int (nI k)), (1, .int (nI q)), (2, .ref fa), (3, .ref aa), (4, .ref da)] rfl (by decide) dL_at2_75 ?_
    refine v_iload C 3 rfl dL_at2_77 ?_
    refine v_bipush (v := 7) C dL_at2_79 (by decide) ?_
    refine v_icmp_ne (tgt := 97) C dL_at2_81 (by decide) (fun c48 => absurd c48 (by decide)) (fun c48 => ?_)
    refine v_lload C 0 rfl dL_at2_84 ?_
    refine v_iload C 1 rfl dL_at2_86 ?_
    refine v_i2l (v := lN64 (F (4 * k + 2))) C dL_at2_88 rfl ?_
    refine v_lmul C dL_at2_89 (v_eql (y := ((rowOf (oAL s) (oV s) (T (F (4 * k + 1))) q) * (lN64 (F (4 * k + 2))))) (rfl) ?_)
    refine v_ldc2 C KO_L_30 dL_at2_90 ?_
    refine v_callS (rest := []) C (c_L_down l hl G ((rowOf (oAL s) (oV s) (T (F (4 * k + 1))) q) * (lN64 (F (4 * k + 2)))) h) S_L_32 rfl rfl (Nat.le_of_ble_eq_true rfl) ⟨Nat.le_of_ble_eq_true rfl, Nat.le_of_ble_eq_true rfl⟩ ⟨Nat.le_of_ble_eq_true rfl, Nat.le_of_ble_eq_true rfl⟩ dL_at2_93 (fun l50 h50 q50 => ?_)
    obtain ⟨e50, rfl⟩ := q50; subst e50
    exact v_lret C hQ hr (Nat.le_of_ble_eq_true rfl) (Nat.le_of_ble_eq_true rfl) dL_at2_96 ⟨by rw [fT, row_share (he.w6 hw (k := F (4 * k + 1)) (by omega))], rfl⟩
  · refine v_aload_n C 2 rfl dL_at2_0 rfl ?_
    refine v_iconst (v := 4) C dL_at2_1 (by decide) ?_
    refine v_iload_n C 0 rfl dL_at2_2 rfl ?_
    refine v_imul C dL_at2_3 (v_eqi (nI_kml k 4 (by decide)) ?_)
    refine v_iald C hF (vpin (show 4 * k < 60 by omega) (by decide)) dL_at2_4 (v_eqi (y := nI 8) ((congrArg (fun j => nI (F j)) (nI_clamp (show 4 * k < 2 ^ 31 by omega))).trans (congrArg nI f0)) ?_)
    refine v_istore C [(5, .int (nI 8)), (0, .int (nI k)), (1, .int (nI q)), (2, .ref fa), (3, .ref aa), (4, .ref da)] rfl (by decide) dL_at2_5 ?_
    refine v_aload_n C 3 rfl dL_at2_7 rfl ?_
    refine v_iconst (v := 4) C dL_at2_8 (by decide) ?_
    refine v_iload_n C 1 rfl dL_at2_9 rfl ?_
    refine v_imul C dL_at2_10 (v_eqi (nI_kml k 4 (by decide)) ?_)
    refine v_iconst (v := 1) C dL_at2_11 (by decide) ?_
    refine v_iadd C dL_at2_12 (v_eqi (nI_adk (4 * k) 1 (by decide)) ?_)
    refine v_iald C hF (vpin (show 4 * k + 1 < 60 by omega) (by decide)) dL_at2_13 (v_eqi (y := nI (F (4 * k + 1))) (congrArg (fun j => nI (F j)) (nI_clamp (show 4 * k + 1 < 2 ^ 31 by omega))) ?_)
    refine v_istore C [(6, .int (nI (F (4 * k + 1)))), (5, .int (nI 8)), (0, .int (nI k)), (1, .int (nI q)), (2, .ref fa), (3, .ref aa), (4, .ref da)] rfl (by decide) dL_at2_14 ?_
    refine v_aload_n C 4 rfl dL_at2_16 rfl ?_
    refine v_iconst (v := 4) C dL_at2_17 (by decide) ?_
    refine v_iload_n C 2 rfl dL_at2_18 rfl ?_
    refine v_imul C dL_at2_19 (v_eqi (nI_kml k 4 (by decide)) ?_)
    refine v_iconst (v := 2) C dL_at2_20 (by decide) ?_
    refine v_iadd C dL_at2_21 (v_eqi (nI_adk (4 * k) 2 (by decide)) ?_)
    refine v_iald C hF (vpin (show 4 * k + 2 < 60 by omega) (by decide)) dL_at2_22 (v_eqi (y := nI (F (4 * k + 2))) (congrArg (fun j => nI (F j)) (nI_clamp (show 4 * k + 2 < 2 ^ 31 by omega))) ?_)
    refine v_istore C [(7, .int (nI (F (4 * k + 2)))), (6, .int (nI (F (4 * k + 1)))), (5, .int (nI 8)), (0, .int (nI k)), (1, .int (nI q)), (2, .ref fa), (3, .ref aa), (4, .ref da)] rfl (by decide) dL_at2_23 ?_
    refine v_iload C 2 rfl dL_at2_25 ?_
    refine v_iconst (v := 4) C dL_at2_27 (by decide) ?_
    refine v_icmp_eq (tgt := 37) C dL_at2_28 (by decide) (fun c56 => absurd c56 (by decide)) (fun c56 => ?_)
    refine v_iload C 2 rfl dL_at2_31 ?_
    refine v_iconst (v := 5) C dL_at2_33 (by decide) ?_
    refine v_icmp_ne (tgt := 45) C dL_at2_34 (by decide) (fun c57 => ?_) (fun c57 => absurd c57 (by decide))
    refine v_iload C 2 rfl dL_at2_45 ?_
    refine v_bipush (v := 6) C dL_at2_47 (by decide) ?_
    refine v_icmp_ne (tgt := 67) C dL_at2_49 (by decide) (fun c58 => ?_) (fun c58 => absurd c58 (by decide))
    refine v_iload C 1 rfl dL_at2_67 ?_
    refine v_iload_n C 4 rfl dL_at2_69 rfl ?_
    refine v_aload_n C 5 rfl dL_at2_70 rfl ?_
    refine v_aload_n C 6 rfl dL_at2_71 rfl ?_
    refine v_callS (rest := []) C (c_L_at1 l hl G fa aa da (F (4 * k + 1)) q M F A D T lv s h hw he hF hA (show F (4 * k + 1) < M by omega) (show lv (F (4 * k + 1)) ≤ 1 by omega) (by omega)) S_L_22 rfl rfl (Nat.le_of_ble_eq_true rfl) ⟨Nat.le_of_ble_eq_true rfl, Nat.le_of_ble_eq_true rfl⟩ ⟨Nat.le_of_ble_eq_true rfl, Nat.le_of_ble_eq_true rfl⟩ dL_at2_72 (fun l59 h59 q59 => ?_)
    obtain ⟨e59, rfl⟩ := q59; subst e59
    refine v_lstore C [(8, .long (rowOf (oAL s) (oV s) (T (F (4 * k + 1))) q)), (7, .int (nI (F (4 * k + 2)))), (6, .int (nI (F (4 * k + 1)))), (5, .int (nI 8)), (0, .int (nI k)), (1, .int (nI q)), (2, .ref fa), (3, .ref aa), (4, .ref da)] rfl (by decide) dL_at2_75 ?_
    refine v_iload C 3 rfl dL_at2_77 ?_
    refine v_bipush (v := 7) C dL_at2_79 (by decide) ?_
    refine v_icmp_ne (tgt := 97) C dL_at2_81 (by decide) (fun c60 => ?_) (fun c60 => absurd c60 (by decide))
    refine v_iload C 3 rfl dL_at2_97 ?_
    refine v_bipush (v := 8) C dL_at2_99 (by decide) ?_
    refine v_icmp_ne (tgt := 144) C dL_at2_101 (by decide) (fun c61 => absurd c61 (by decide)) (fun c61 => ?_)
    refine v_iconst (v := 1) C dL_at2_104 (by decide) ?_
    refine v_istore C [(10, .int 1), (8, .long (rowOf (oAL s) (oV s) (T (F (4 * k + 1))) q)), (7, .int (nI (F (4 * k + 2)))), (6, .int (nI (F (4 * k + 1)))), (5, .int (nI 8)), (0, .int (nI k)), (1, .int (nI q)), (2, .ref fa), (3, .ref aa), (4, .ref da)] rfl (by decide) dL_at2_105 ?_
    have L62 : ∀ (d : Nat) (b : Nat) (w : Int64), (1 ≤ b) → (b ≤ 4) → (w = syr (rowOf (oAL s) (oV s) (T (F (4 * k + 1)))) q b) → (4 < b + d) → V zp l ze (rmm 13 0 0) zs zm zargs zbelow zmeth zc G 11 Q h (0 + 0) (0 + 0) 107 [(10, .int (nI b)), (8, .long w), (0, .int (nI k)), (1, .int (nI q)), (2, .ref fa), (3, .ref aa), (4, .ref da), (5, .int (nI 8)), (6, .int (nI (F (4 * k + 1)))), (7, .int (nI (F (4 * k + 2))))] [] := by
      intro d
      induction d with
      | zero =>
        intro b w hb1 hb4 hwb hd
        exact absurd hd (by omega)
      | succ d ih62 =>
        intro b w hb1 hb4 hwb hd
        refine v_iload C 0 rfl dL_at2_107 ?_
        refine v_iconst (v := 4) C dL_at2_109 (by decide) ?_
        refine v_icmp_ge (tgt := 141) C dL_at2_110 (by decide) (fun c63 => ?_) (fun c63 => ?_)
        · have c63 := (nk_ge (a := b) 4 (by decide) (by omega) (by decide)).mp c63
          refine v_lload C 1 rfl dL_at2_141 ?_
          exact v_lret C hQ hr (Nat.le_of_ble_eq_true rfl) (Nat.le_of_ble_eq_true rfl) dL_at2_143 ⟨by rw [fT, row_year (he.w6 hw (k := F (4 * k + 1)) (by omega))]; exact hwb.trans (syr_stop_or (by omega)).symm, rfl⟩
        · have c63 := (nk_ge_f (a := b) 4 (by decide) (by omega) (by decide)).mp c63
          refine v_iload C 0 rfl dL_at2_113 ?_
          refine v_iload_n C 3 rfl dL_at2_115 rfl ?_
          refine v_icmp_gt (tgt := 141) C dL_at2_116 (by decide) (fun c64 => ?_) (fun c64 => ?_)
          · have c64 := (nn_gt (a := b) (b := q) (by omega) (by omega)).mp c64
            refine v_lload C 1 rfl dL_at2_141 ?_
            exact v_lret C hQ hr (Nat.le_of_ble_eq_true rfl) (Nat.le_of_ble_eq_true rfl) dL_at2_143 ⟨by rw [fT, row_year (he.w6 hw (k := F (4 * k + 1)) (by omega))]; exact hwb.trans (syr_stop_or (by omega)).symm, rfl⟩
          · have c64 := (nn_gt_f (a := b) (b := q) (by omega) (by omega)).mp c64
            refine v_lload C 1 rfl dL_at2_119 ?_
            refine v_iload C 8 rfl dL_at2_121 ?_
            refine v_iload_n C 3 rfl dL_at2_123 rfl ?_
            refine v_iload C 0 rfl dL_at2_124 ?_
            refine v_isub C dL_at2_126 (v_eqi (pk_sub (a := q) (b := b) (by omega)) ?_)
            refine v_aload_n C 4 rfl dL_at2_127 rfl ?_
            refine v_aload_n C 5 rfl dL_at2_128 rfl ?_
            refine v_callS (rest := [.long w]) C (c_L_at1 l hl G fa aa da (F (4 * k + 1)) (q - b) M F A D T lv s h hw he hF hA (show F (4 * k + 1) < M by omega) (show lv (F (4 * k + 1)) ≤ 1 by omega) (by omega)) S_L_22 rfl rfl (Nat.le_of_ble_eq_true rfl) ⟨Nat.le_of_ble_eq_true rfl, Nat.le_of_ble_eq_true rfl⟩ ⟨Nat.le_of_ble_eq_true rfl, Nat.le_of_ble_eq_true rfl⟩ dL_at2_129 (fun l66 h66 q66 => ?_)
            obtain ⟨e66, rfl⟩ := q66; subst e66
            refine v_ladd C dL_at2_132 (v_eql (y := (syr (rowOf (oAL s) (oV s) (T (F (4 * k + 1)))) q (b + 1))) ((congrArg (· + _) hwb).trans (syr_s (b := b) (by omega)).symm) ?_)
            refine v_lstore C [(8, .long (syr (rowOf (oAL s) (oV s) (T (F (4 * k + 1)))) q (b + 1))), (10, .int (nI b)), (0, .int (nI k)), (1, .int (nI q)), (2, .ref fa), (3, .ref aa), (4, .ref da), (5, .int (nI 8)), (6, .int (nI (F (4 * k + 1)))), (7, .int (nI (F (4 * k + 2))))] rfl (by decide) dL_at2_133 ?_
            refine v_iinc C 1 [(10, .int (nI (b + 1))), (8, .long (syr (rowOf (oAL s) (oV s) (T (F (4 * k + 1)))) q (b + 1))), (0, .int (nI k)), (1, .int (nI q)), (2, .ref fa), (3, .ref aa), (4, .ref da), (5, .int (nI 8)), (6, .int (nI (F (4 * k + 1)))), (7, .int (nI (F (4 * k + 2))))] rfl (nI_inc b 1 (by decide)) rfl (by decide) dL_at2_135 ?_
            refine v_goto (tgt := 107) C dL_at2_138 (by decide) ?_
            refine v_lvp [0, 1, 2, 3, 4, 5, 6, 7, 8, 9] rfl ?_
            exact ih62 (b + 1) _ (by omega) (by omega) rfl (by omega)
    refine v_lvp [0, 1, 5, 6, 7, 8, 9, 4, 3, 2] rfl ?_
    exact L62 5 1 _ (by omega) (by omega) (show _ = syr (rowOf (oAL s) (oV s) (T (F (4 * k + 1)))) q 0 + rowOf (oAL s) (oV s) (T (F (4 * k + 1))) (q - 0) from (Int64.zero_add _).symm) (by omega)
set_option maxHeartbeats 4000000 in
set_option maxRecDepth 100000 in
theorem c_L_at3 (l : Launch) (hl : l.stackTraces = false) (G : zG) (fa aa da k q M : Nat) (F : Nat → Nat) (A D : Nat → Int32) (T : Nat → List Tok) (lv : Nat → Nat) (s : ZS) (h : zH) (hw : WFs s) (he : EV s F A D T lv M) (hF : iC G h fa 60 (fN F)) (hA : iC G h aa 60 A) (hD : iC G h da 60 D) (hk : k < M) (hv : lv k ≤ 3) (hq : q < 9) : zMet eL l yL_at3 cL_at3 11 (some .long) 14 0 0 G [.int (nI k), .int (nI q), .ref fa, .ref aa, .ref da] h (fun r h2 => r = rowOf (oAL s) (oV s) (T k) q ∧ h = h2) := by
  refine con_of hl RL rfl (by decide +kernel) [(0, .int (nI k)), (1, .int (nI q)), (2, .ref fa), (3, .ref aa), (4, .ref da)] rfl (Nat.le_of_ble_eq_true rfl) ?_
  intro zp ze zs zm zargs zbelow zmeth zc C hr hin Q hQ
  have hM := he.1
  have hN6 := he.2.1
  obtain ⟨l1, l6, l3, hFE⟩ := he.2.2.1 k hk
  rcases hFE with ⟨f0, f1, fT, fl⟩ | ⟨f0, f1, fT, fl⟩ | ⟨f0, f1, fT, fl⟩ | ⟨f0, f1, f2, fT, fl⟩ | ⟨f0, f1, f2, fT, fl⟩ | ⟨f0, f1, fT, fl⟩
  · refine v_aload_n C 2 rfl dL_at3_0 rfl ?_
    refine v_iconst (v := 4) C dL_at3_1 (by decide) ?_
    refine v_iload_n C 0 rfl dL_at3_2 rfl ?_
    refine v_imul C dL_at3_3 (v_eqi (nI_kml k 4 (by decide)) ?_)
    refine v_iald C hF (vpin (show 4 * k < 60 by omega) (by decide)) dL_at3_4 (v_eqi (y := nI 4) ((congrArg (fun j => nI (F j)) (nI_clamp (show 4 * k < 2 ^ 31 by omega))).trans (congrArg nI f0)) ?_)
    refine v_istore C [(5, .int (nI 4)), (0, .int (nI k)), (1, .int (nI q)), (2, .ref fa), (3, .ref aa), (4, .ref da)] rfl (by decide) dL_at3_5 ?_
    refine v_aload_n C 3 rfl dL_at3_7 rfl ?_
    refine v_iconst (v := 4) C dL_at3_8 (by decide) ?_
    refine v_iload_n C 1 rfl dL_at3_9 rfl ?_
    refine v_imul C dL_at3_10 (v_eqi (nI_kml k 4 (by decide)) ?_)
    refine v_iconst (v := 1) C dL_at3_11 (by decide) ?_
    refine v_iadd C dL_at3_12 (v_eqi (nI_adk (4 * k) 1 (by decide)) ?_)
    refine v_iald C hF (vpin (show 4 * k + 1 < 60 by omega) (by decide)) dL_at3_13 (v_eqi (y := nI (F (4 * k + 1))) (congrArg (fun j => nI (F j)) (nI_clamp (show 4 * k + 1 < 2 ^ 31 by omega))) ?_)
    refine v_istore C [(6, .int (nI (F (4 * k + 1)))), (5, .int (nI 4)), (0, .int (nI k)), (1, .int (nI q)), (2, .ref fa), (3, .ref aa), (4, .ref da)] rfl (by decide) dL_at3_14 ?_
    refine v_aload_n C 4 rfl dL_at3_16 rfl ?_
    refine v_iconst (v := 4) C dL_at3_17 (by decide) ?_
    refine v_iload_n C 2 rfl dL_at3_18 rfl ?_
    refine v_imul C dL_at3_19 (v_eqi (nI_kml k 4 (by decide)) ?_)
    refine v_iconst (v := 2) C dL_at3_20 (by decide) ?_
    refine v_iadd C dL_at3_21 (v_eqi (nI_adk (4 * k) 2 (by decide)) ?_)
    refine v_iald C hF (vpin (show 4 * k + 2 < 60 by omega) (by decide)) dL_at3_22 (v_eqi (y := nI (F (4 * k + 2))) (congrArg (fun j => nI (F j)) (nI_clamp (show 4 * k + 2 < 2 ^ 31 by omega))) ?_)
    refine v_istore C [(7, .int (nI (F (4 * k + 2)))), (6, .int (nI (F (4 * k + 1)))), (5, .int (nI 4)), (0, .int (nI k)), (1, .int (nI q)), (2, .ref fa), (3, .ref aa), (4, .ref da)] rfl (by decide) dL_at3_23 ?_
    refine v_iload C 2 rfl dL_at3_25 ?_
    refine v_iconst (v := 4) C dL_at3_27 (by decide) ?_
    refine v_icmp_eq (tgt := 37) C dL_at3_28 (by decide) (fun c6 => ?_) (fun c6 => absurd c6 (by decide))
    refine v_iload_n C 3 rfl dL_at3_37 rfl ?_
    refine v_iload_n C 4 rfl dL_at3_38 rfl ?_
    refine v_aload_n C 5 rfl dL_at3_39 rfl ?_
    refine v_aload_n C 6 rfl dL_at3_40 rfl ?_
    refine v_callS (rest := []) C (c_L_at1 l hl G fa aa da k q M F A D T lv s h hw he hF hA hk (by omega) hq) S_L_22 rfl rfl (Nat.le_of_ble_eq_true rfl) ⟨Nat.le_of_ble_eq_true rfl, Nat.le_of_ble_eq_true rfl⟩ ⟨Nat.le_of_ble_eq_true rfl, Nat.le_of_ble_eq_true rfl⟩ dL_at3_41 (fun l7 h7 q7 => ?_)
    obtain ⟨e7, rfl⟩ := q7; subst e7
    exact v_lret C hQ hr (Nat.le_of_ble_eq_true rfl) (Nat.le_of_ble_eq_true rfl) dL_at3_44 ⟨rfl, rfl⟩
  · refine v_aload_n C 2 rfl dL_at3_0 rfl ?_
    refine v_iconst (v := 4) C dL_at3_1 (by decide) ?_
    refine v_iload_n C 0 rfl dL_at3_2 rfl ?_
    refine v_imul C dL_at3_3 (v_eqi (nI_kml k 4 (by decide)) ?_)
    refine v_iald C hF (vpin (show 4 * k < 60 by omega) (by decide)) dL_at3_4 (v_eqi (y := nI 5) ((congrArg (fun j => nI (F j)) (nI_clamp (show 4 * k < 2 ^ 31 by omega))).trans (congrArg nI f0)) ?_)
    refine v_istore C [(5, .int (nI 5)), (0, .int (nI k)), (1, .int (nI q)), (2, .ref fa), (3, .ref aa), (4, .ref da)] rfl (by decide) dL_at3_5 ?_
    refine v_aload_n C 3 rfl dL_at3_7 rfl ?_
    refine v_iconst (v := 4) C dL_at3_8 (by decide) ?_
    refine v_iload_n C 1 rfl dL_at3_9 rfl ?_
    refine v_imul C dL_at3_10 (v_eqi (nI_kml k 4 (by decide)) ?_)
    refine v_iconst (v := 1) C dL_at3_11 (by decide) ?_
    refine v_iadd C dL_at3_12 (v_eqi (nI_adk (4 * k) 1 (by decide)) ?_)
    refine v_iald C hF (vpin (show 4 * k + 1 < 60 by omega) (by decide)) dL_at3_13 (v_eqi (y := nI (F (4 * k + 1))) (congrArg (fun j => nI (F j)) (nI_clamp (show 4 * k + 1 < 2 ^ 31 by omega))) ?_)
    refine v_istore C [(6, .int (nI (F (4 * k + 1)))), (5, .int (nI 5)), (0, .int (nI k)), (1, .int (nI q)), (2, .ref fa), (3, .ref aa), (4, .ref da)] rfl (by decide) dL_at3_14 ?_
    refine v_aload_n C 4 rfl dL_at3_16 rfl ?_
    refine v_iconst (v := 4) C dL_at3_17 (by decide) ?_
    refine v_iload_n C 2 rfl dL_at3_18 rfl ?_
    refine v_imul C dL_at3_19 (v_eqi (nI_kml k 4 (by decide)) ?_)
    refine v_iconst (v := 2) C dL_at3_20 (by decide) ?_
    refine v_iadd C dL_at3_21 (v_eqi (nI_adk (4 * k) 2 (by decide)) ?_)
    refine v_iald C hF (vpin (show 4 * k + 2 < 60 by omega) (by decide)) dL_at3_22 (v_eqi (y := nI (F (4 * k + 2))) (congrArg (fun j => nI (F j)) (nI_clamp (show 4 * k + 2 < 2 ^ 31 by omega))) ?_)
    refine v_istore C [(7, .int (nI (F (4 * k + 2)))), (6, .int (nI (F (4 * k + 1)))), (5, .int (nI 5)), (0, .int (nI k)), (1, .int (nI q)), (2, .ref fa), (3, .ref aa), (4, .ref da)] rfl (by decide) dL_at3_23 ?_
    refine v_iload C 2 rfl dL_at3_25 ?_
    refine v_iconst (v := 4) C dL_at3_27 (by decide) ?_
    refine v_icmp_eq (tgt := 37) C dL_at3_28 (by decide) (fun c13 => absurd c13 (by decide)) (fun c13 => ?_)
    refine v_iload C 2 rfl dL_at3_31 ?_
    refine v_iconst (v := 5) C dL_at3_33 (by decide) ?_
    refine v_icmp_ne (tgt := 45) C dL_at3_34 (by decide) (fun c14 => absurd c14 (by decide)) (fun c14 => ?_)
    refine v_iload_n C 3 rfl dL_at3_37 rfl ?_
    refine v_iload_n C 4 rfl dL_at3_38 rfl ?_
    refine v_aload_n C 5 rfl dL_at3_39 rfl ?_
    refine v_aload_n C 6 rfl dL_at3_40 rfl ?_
    refine v_callS (rest := []) C (c_L_at1 l hl G fa aa da k q M F A D T lv s h hw he hF hA hk (by omega) hq) S_L_22 rfl rfl (Nat.le_of_ble_eq_true rfl) ⟨Nat.le_of_ble_eq_true rfl, Nat.le_of_ble_eq_true rfl⟩ ⟨Nat.le_of_ble_eq_true rfl, Nat.le_of_ble_eq_true rfl⟩ dL_at3_41 (fun l15 h15 q15 => ?_)
    obtain ⟨e15, rfl⟩ := q15; subst e15
    exact v_lret C hQ hr (Nat.le_of_ble_eq_true rfl) (Nat.le_of_ble_eq_true rfl) dL_at3_44 ⟨rfl, rfl⟩
  · refine v_aload_n C 2 rfl dL_at3_0 rfl ?_
    refine v_iconst (v := 4) C dL_at3_1 (by decide) ?_
    refine v_iload_n C 0 rfl dL_at3_2 rfl ?_
    refine v_imul C dL_at3_3 (v_eqi (nI_kml k 4 (by decide)) ?_)
    refine v_iald C hF (vpin (show 4 * k < 60 by omega) (by decide)) dL_at3_4 (v_eqi (y := nI 6) ((congrArg (fun j => nI (F j)) (nI_clamp (show 4 * k < 2 ^ 31 by omega))).trans (congrArg nI f0)) ?_)
    refine v_istore C [(5, .int (nI 6)), (0, .int (nI k)), (1, .int (nI q)), (2, .ref fa), (3, .ref aa), (4, .ref da)] rfl (by decide) dL_at3_5 ?_
    refine v_aload_n C 3 rfl dL_at3_7 rfl ?_
    refine v_iconst (v := 4) C dL_at3_8 (by decide) ?_
    refine v_iload_n C 1 rfl dL_at3_9 rfl ?_
    refine v_imul C dL_at3_10 (v_eqi (nI_kml k 4 (by decide)) ?_)
    refine v_iconst (v := 1) C dL_at3_11 (by decide) ?_
    refine v_iadd C dL_at3_12 (v_eqi (nI_adk (4 * k) 1 (by decide)) ?_)
    refine v_iald C hF (vpin (show 4 * k + 1 < 60 by omega) (by decide)) dL_at3_13 (v_eqi (y := nI (F (4 * k + 1))) (congrArg (fun j => nI (F j)) (nI_clamp (show 4 * k + 1 < 2 ^ 31 by omega))) ?_)
    refine v_istore C [(6, .int (nI (F (4 * k + 1)))), (5, .int (nI 6)), (0, .int (nI k)), (1, .int (nI q)), (2, .ref fa), (3, .ref aa), (4, .ref da)] rfl (by decide) dL_at3_14 ?_
    refine v_aload_n C 4 rfl dL_at3_16 rfl ?_
    refine v_iconst (v := 4) C dL_at3_17 (by decide) ?_
    refine v_iload_n C 2 rfl dL_at3_18 rfl ?_
    refine v_imul C dL_at3_19 (v_eqi (nI_kml k 4 (by decide)) ?_)
    refine v_iconst (v := 2) C dL_at3_20 (by decide) ?_
    refine v_iadd C dL_at3_21 (v_eqi (nI_adk (4 * k) 2 (by decide)) ?_)
    refine v_iald C hF (vpin (show 4 * k + 2 < 60 by omega) (by decide)) dL_at3_22 (v_eqi (y := nI (F (4 * k + 2))) (congrArg (fun j => nI (F j)) (nI_clamp (show 4 * k + 2 < 2 ^ 31 by omega))) ?_)
    refine v_istore C [(7, .int (nI (F (4 * k + 2)))), (6, .int (nI (F (4 * k + 1)))), (5, .int (nI 6)), (0, .int (nI k)), (1, .int (nI q)), (2, .ref fa), (3, .ref aa), (4, .ref da)] rfl (by decide) dL_at3_23 ?_
    refine v_iload C 2 rfl dL_at3_25 ?_
    refine v_iconst (v := 4) C dL_at3_27 (by decide) ?_
    refine v_icmp_eq (tgt := 37) C dL_at3_28 (by decide) (fun c21 => absurd c21 (by decide)) (fun c21 => ?_)
    refine v_iload C 2 rfl dL_at3_31 ?_
    refine v_iconst (v := 5) C dL_at3_33 (by decide) ?_
    refine v_icmp_ne (tgt := 45) C dL_at3_34 (by decide) (fun c22 => ?_) (fun c22 => absurd c22 (by decide))
    refine v_iload C 2 rfl dL_at3_45 ?_
    refine v_bipush (v := 6) C dL_at3_47 (by decide) ?_
    refine v_icmp_ne (tgt := 69) C dL_at3_49 (by decide) (fun c23 => absurd c23 (by decide)) (fun c23 => ?_)
    refine v_iload C 1 rfl dL_at3_52 ?_
    refine v_iload_n C 4 rfl dL_at3_54 rfl ?_
    refine v_aload C 7 rfl dL_at3_55 ?_
    obtain ⟨k2, hk2, hh2, hv2, -, ho2⟩ := he.held hw f1 (q := q) (by omega)
    refine v_callS (rest := []) C (c_L_holds l hl G (F (4 * k + 1)) q da D h hD (by omega) (by omega) (EV.d0 he hw f1)) S_L_26 rfl rfl (Nat.le_of_ble_eq_true rfl) ⟨Nat.le_of_ble_eq_true rfl, Nat.le_of_ble_eq_true rfl⟩ ⟨Nat.le_of_ble_eq_true rfl, Nat.le_of_ble_eq_true rfl⟩ dL_at3_57 (fun i24 h24 q24 => ?_)
    obtain ⟨e24, rfl⟩ := q24; rw [hh2] at e24; subst e24
    refine v_iload_n C 4 rfl dL_at3_60 rfl ?_
    refine v_aload_n C 5 rfl dL_at3_61 rfl ?_
    refine v_aload_n C 6 rfl dL_at3_62 rfl ?_
    refine v_aload C 7 rfl dL_at3_63 ?_
    refine v_callS (rest := []) C (c_L_at2 l hl G fa aa da k2 q M F A D T lv s h hw he hF hA hD hk2 (by omega) hq) S_L_51 rfl rfl (Nat.le_of_ble_eq_true rfl) ⟨Nat.le_of_ble_eq_true rfl, Nat.le_of_ble_eq_true rfl⟩ ⟨Nat.le_of_ble_eq_true rfl, Nat.le_of_ble_eq_true rfl⟩ dL_at3_65 (fun l25 h25 q25 => ?_)
    obtain ⟨e25, rfl⟩ := q25; subst e25
    exact v_lret C hQ hr (Nat.le_of_ble_eq_true rfl) (Nat.le_of_ble_eq_true rfl) dL_at3_68 ⟨by rw [fT]; exact ho2.symm, rfl⟩
  · refine v_aload_n C 2 rfl dL_at3_0 rfl ?_
    refine v_iconst (v := 4) C dL_at3_1 (by decide) ?_
    refine v_iload_n C 0 rfl dL_at3_2 rfl ?_
    refine v_imul C dL_at3_3 (v_eqi (nI_kml k 4 (by decide)) ?_)
    refine v_iald C hF (vpin (show 4 * k < 60 by omega) (by decide)) dL_at3_4 (v_eqi (y := nI (F (4 * k))) ((congrArg (fun j => nI (F j)) (nI_clamp (show 4 * k < 2 ^ 31 by omega))).trans (congrArg nI rfl)) ?_)
    refine v_istore C [(5, .int (nI (F (4 * k)))), (0, .int (nI k)), (1, .int (nI q)), (2, .ref fa), (3, .ref aa), (4, .ref da)] rfl (by decide) dL_at3_5 ?_
    refine v_aload_n C 3 rfl dL_at3_7 rfl ?_
    refine v_iconst (v := 4) C dL_at3_8 (by decide) ?_
    refine v_iload_n C 1 rfl dL_at3_9 rfl ?_
    refine v_imul C dL_at3_10 (v_eqi (nI_kml k 4 (by decide)) ?_)
    refine v_iconst (v := 1) C dL_at3_11 (by decide) ?_
    refine v_iadd C dL_at3_12 (v_eqi (nI_adk (4 * k) 1 (by decide)) ?_)
    refine v_iald C hF (vpin (show 4 * k + 1 < 60 by omega) (by decide)) dL_at3_13 (v_eqi (y := nI (F (4 * k + 1))) (congrArg (fun j => nI (F j)) (nI_clamp (show 4 * k + 1 < 2 ^ 31 by omega))) ?_)
    refine v_istore C [(6, .int (nI (F (4 * k + 1)))), (5, .int (nI (F (4 * k)))), (0, .int (nI k)), (1, .int (nI q)), (2, .ref fa), (3, .ref aa), (4, .ref da)] rfl (by decide) dL_at3_14 ?_
    refine v_aload_n C 4 rfl dL_at3_16 rfl ?_
    refine v_iconst (v := 4) C dL_at3_17 (by decide) ?_
    refine v_iload_n C 2 rfl dL_at3_18 rfl ?_
    refine v_imul C dL_at3_19 (v_eqi (nI_kml k 4 (by decide)) ?_)
    refine v_iconst (v := 2) C dL_at3_20 (by decide) ?_
    refine v_iadd C dL_at3_21 (v_eqi (nI_adk (4 * k) 2 (by decide)) ?_)
    refine v_iald C hF (vpin (show 4 * k + 2 < 60 by omega) (by decide)) dL_at3_22 (v_eqi (y := nI (F (4 * k + 2))) (congrArg (fun j => nI (F j)) (nI_clamp (show 4 * k + 2 < 2 ^ 31 by omega))) ?_)
    refine v_istore C [(7, .int (nI (F (4 * k + 2)))), (6, .int (nI (F (4 * k + 1)))), (5, .int (nI (F (4 * k)))), (0, .int (nI k)), (1, .int (nI q)), (2, .ref fa), (3, .ref aa), (4, .ref da)] rfl (by decide) dL_at3_23 ?_
    refine v_iload C 2 rfl dL_at3_25 ?_
    refine v_iconst (v := 4) C dL_at3_27 (by decide) ?_
    refine v_icmp_eq (tgt := 37) C dL_at3_28 (by decide) (fun c31 => absurd ((nk_eq (a := F (4 * k)) 4 (by decide) (by omega) (by decide)).mp c31) (by omega)) (fun c31 => ?_)
    have c31 := (nk_eq_f (a := (F (4 * k))) 4 (by decide) (by omega) (by decide)).mp c31
    refine v_iload C 2 rfl dL_at3_31 ?_
    refine v_iconst (v := 5) C dL_at3_33 (by decide) ?_
    refine v_icmp_ne (tgt := 45) C dL_at3_34 (by decide) (fun c32 => ?_) (fun c32 => absurd ((nk_ne_f (a := F (4 * k)) 5 (by decide) (by omega) (by decide)).mp c32) (by omega))
    have c32 := (nk_ne (a := (F (4 * k))) 5 (by decide) (by omega) (by decide)).mp c32
    refine v_iload C 2 rfl dL_at3_45 ?_
    refine v_bipush (v := 6) C dL_at3_47 (by decide) ?_
    refine v_icmp_ne (tgt := 69) C dL_at3_49 (by decide) (fun c33 => ?_) (fun c33 => absurd ((nk_ne_f (a := F (4 * k)) 6 (by decide) (by omega) (by decide)).mp c33) (by omega))
    have c33 := (nk_ne (a := (F (4 * k))) 6 (by decide) (by omega) (by decide)).mp c33
    refine v_iload C 1 rfl dL_at3_69 ?_
    refine v_iload_n C 4 rfl dL_at3_71 rfl ?_
    refine v_aload_n C 5 rfl dL_at3_72 rfl ?_
    refine v_aload_n C 6 rfl dL_at3_73 rfl ?_
    refine v_aload C 7 rfl dL_at3_74 ?_
    refine v_callS (rest := []) C (c_L_at2 l hl G fa aa da (F (4 * k + 1)) q M F A D T lv s h hw he hF hA hD (show F (4 * k + 1) < M by omega) (show lv (F (4 * k + 1)) ≤ 2 by omega) (by omega)) S_L_51 rfl rfl (Nat.le_of_ble_eq_true rfl) ⟨Nat.le_of_ble_eq_true rfl, Nat.le_of_ble_eq_true rfl⟩ ⟨Nat.le_of_ble_eq_true rfl, Nat.le_of_ble_eq_true rfl⟩ dL_at3_76 (fun l34 h34 q34 => ?_)
    obtain ⟨e34, rfl⟩ := q34; subst e34
    refine v_lstore C [(8, .long (rowOf (oAL s) (oV s) (T (F (4 * k + 1))) q)), (7, .int (nI (F (4 * k + 2)))), (6, .int (nI (F (4 * k + 1)))), (5, .int (nI (F (4 * k)))), (0, .int (nI k)), (1, .int (nI q)), (2, .ref fa), (3, .ref aa), (4, .ref da)] rfl (by decide) dL_at3_79 ?_
    refine v_iload C 3 rfl dL_at3_81 ?_
    refine v_bipush (v := 7) C dL_at3_83 (by decide) ?_
    refine v_icmp_ne (tgt := 101) C dL_at3_85 (by decide) (fun c35 => ?_) (fun c35 => absurd ((nk_ne_f (a := F (4 * k)) 7 (by decide) (by omega) (by decide)).mp c35) (by omega))
    have c35 := (nk_ne (a := (F (4 * k))) 7 (by decide) (by omega) (by decide)).mp c35
    refine v_iload C 3 rfl dL_at3_101 ?_
    refine v_bipush (v := 8) C dL_at3_103 (by decide) ?_
    refine v_icmp_ne (tgt := 150) C dL_at3_105 (by decide) (fun c36 => ?_) (fun c36 => absurd ((nk_ne_f (a := F (4 * k)) 8 (by decide) (by omega) (by decide)).mp c36) (by omega))
    have c36 := (nk_ne (a := (F (4 * k))) 8 (by decide) (by omega) (by decide)).mp c36
    refine v_iload C 3 rfl dL_at3_150 ?_
    refine v_lload C 0 rfl dL_at3_152 ?_
    refine v_iload C 1 rfl dL_at3_154 ?_
    refine v_iload_n C 5 rfl dL_at3_156 rfl ?_
    refine v_aload_n C 6 rfl dL_at3_157 rfl ?_
    refine v_aload_n C 7 rfl dL_at3_158 rfl ?_
    refine v_aload C 8 rfl dL_at3_159 ?_
    refine v_callS (rest := [.long (rowOf (oAL s) (oV s) (T (F (4 * k + 1))) q), .int (nI (F (4 * k)))]) C (c_L_at2 l hl G fa aa da (F (4 * k + 2)) q M F A D T lv s h hw he hF hA hD (show F (4 * k + 2) < M by omega) (show lv (F (4 * k + 2)) ≤ 2 by omega) (by omega)) S_L_51 rfl rfl (Nat.le_of_ble_eq_true rfl) ⟨Nat.le_of_ble_eq_true rfl, Nat.le_of_ble_eq_true rfl⟩ ⟨Nat.le_of_ble_eq_true rfl, Nat.le_of_ble_eq_true rfl⟩ dL_at3_161 (fun l37 h37 q37 => ?_)
    obtain ⟨e37, rfl⟩ := q37; subst e37
    refine v_callS (rest := []) C (c_L_join l hl G (F (4 * k)) (rowOf (oAL s) (oV s) (T (F (4 * k + 1))) q) (rowOf (oAL s) (oV s) (T (F (4 * k + 2))) q) h f0) S_L_36 rfl rfl (Nat.le_of_ble_eq_true rfl) ⟨Nat.le_of_ble_eq_true rfl, Nat.le_of_ble_eq_true rfl⟩ ⟨Nat.le_of_ble_eq_true rfl, Nat.le_of_ble_eq_true rfl⟩ dL_at3_164 (fun l38 h38 q38 => ?_)
    obtain ⟨e38, rfl⟩ := q38; subst e38
    exact v_lret C hQ hr (Nat.le_of_ble_eq_true rfl) (Nat.le_of_ble_eq_true rfl) dL_at3_167 ⟨by rw [fT, row_join (he.w6 hw (k := F (4 * k + 1)) (by omega)) (he.w6 hw (k := F (4 * k + 2)) (by omega)) f0], rfl⟩
  · refine v_aload_n C 2 rfl dL_at3_0 rfl ?_
    refine v_iconst (v := 4) C dL_at3_1 (by decide) ?_
    refine v_iload_n C 0 rfl dL_at3_2 rfl ?_
    refine v_imul C dL_at3_3 (v_eqi (nI_kml k 4 (by decide)) ?_)
    refine v_iald C hF (vpin (show 4 * k < 60 by omega) (by decide)) dL_at3_4 (v_eqi (y := nI 7) ((congrArg (fun j => nI (F j)) (nI_clamp (show 4 * k < 2 ^ 31 by omega))).trans (congrArg nI f0)) ?_)
    refine v_istore C [(5, .int (nI 7)), (0, .int (nI k)), (1, .int (nI q)), (2, .ref fa), (3, .ref aa), (4, .ref da)] rfl (by decide) dL_at3_5 ?_
    refine v_aload_n C 3 rfl dL_at3_7 rfl ?_
    refine v_iconst (v := 4) C dL_at3_8 (by decide) ?_
    refine v_iload_n C 1 rfl dL_at3_9 rfl ?_
    refine v_imul C dL_at3_10 (v_eqi (nI_kml k 4 (by decide)) ?_)
    refine v_iconst (v := 1) C dL_at3_11 (by decide) ?_
    refine v_iadd C dL_at3_12 (v_eqi (nI_adk (4 * k) 1 (by decide)) ?_)
    refine v_iald C hF (vpin (show 4 * k + 1 < 60 by omega) (by decide)) dL_at3_13 (v_eqi (y := nI (F (4 * k + 1))) (congrArg (fun j => nI (F j)) (nI_clamp (show 4 * k + 1 < 2 ^ 31 by omega))) ?_)
    refine v_istore C [(6, .int (nI (F (4 * k + 1)))), (5, .int (nI 7)), (0, .int (nI k)), (1, .int (nI q)), (2, .ref fa), (3, .ref aa), (4, .ref da)] rfl (by decide) dL_at3_14 ?_
    refine v_aload_n C 4 rfl dL_at3_16 rfl ?_
    refine v_iconst (v := 4) C dL_at3_17 (by decide) ?_
    refine v_iload_n C 2 rfl dL_at3_18 rfl ?_
    refine v_imul C dL_at3_19 (v_eqi (nI_kml k 4 (by decide)) ?_)
    refine v_iconst (v := 2) C dL_at3_20 (by decide) ?_
    refine v_iadd C dL_at3_21 (v_eqi (nI_adk (4 * k) 2 (by decide)) ?_)
    refine v_iald C hF (vpin (show 4 * k + 2 < 60 by omega) (by decide)) dL_at3_22 (v_eqi (y := nI (F (4 * k + 2))) (congrArg (fun j => nI (F j)) (nI_clamp (show 4 * k + 2 < 2 ^ 31 by omega))) ?_)
    refine v_istore C [(7, .int (nI (F (4 * k + 2)))), (6, .int (nI (F (4 * k + 1)))), (5, .int (nI 7)), (0, .int (nI k)), (1, .int (nI q)), (2, .ref fa), (3, .ref aa), (4, .ref da)] rfl (by decide) dL_at3_23 ?_
    refine v_iload C 2 rfl dL_at3_25 ?_
    refine v_iconst (v := 4) C dL_at3_27 (by decide) ?_
    refine v_icmp_eq (tgt := 37) C dL_at3_28 (by decide) (fun c44 => absurd c44 (by decide)) (fun c44 => ?_)
    refine v_iload C 2 rfl dL_at3_31 ?_
    refine v_iconst (v := 5) C dL_at3_33 (by decide) ?_
    refine v_icmp_ne (tgt := 45) C dL_at3_34 (by decide) (fun c45 => ?_) (fun c45 => absurd c45 (by decide))
    refine v_iload C 2 rfl dL_at3_45 ?_
    refine v_bipush (v := 6) C dL_at3_47 (by decide) ?_
    refine v_icmp_ne (tgt := 69) C dL_at3_49 (by decide) (fun c46 => ?_) (fun c46 => absurd c46 (by decide))
    refine v_iload C 1 rfl dL_at3_69 ?_
    refine v_iload_n C 4 rfl dL_at3_71 rfl ?_
    refine v_aload_n C 5 rfl dL_at3_72 rfl ?_
    refine v_aload_n C 6 rfl dL_at3_73 rfl ?_
    refine v_aload C 7 rfl dL_at3_74 ?_
    refine v_callS (rest := []) C (c_L_at2 l hl G fa aa da (F (4 * k + 1)) q M F A D T lv s h hw he hF hA hD (show F (4 * k + 1) < M by omega) (show lv (F (4 * k + 1)) ≤ 2 by omega) (by omega)) S_L_51 rfl rfl (Nat.le_of_ble_eq_true rfl) ⟨Nat.le_of_ble_eq_true rfl, Nat.le_of_ble_eq_true rfl⟩ ⟨Nat.le_of_ble_eq_true rfl, Nat.le_of_ble_eq_true rfl⟩ dL_at3_76 (fun l47 h47 q47 => ?_)
    obtain ⟨e47, rfl⟩ := q47; subst e47
    refine v_lstore C [(8, .long (rowOf (oAL s) (oV s) (T (F (4 * k + 1))) q)), (7, .int (nI (F (4 * k + 2)))), (6, .int (nI (F (4 * k + 1)))), (5, .int (nI 7)), (0, .int (nI k)), (1, .int (nI q)), (2, .ref fa), (3, .ref aa), (4, .ref da)] rfl (by decide) dL_at3_79 ?_
    refine v_iload C 3 rfl dL_at3_81 ?_
    refine v_bipush (v := 7) C dL_at3_83 (by decide) ?_
    refine v_icmp_ne (tgt := 101) C dL_at3_85 (by decide) (fun c48 => absurd c48 (by decide)) (fun c48 => ?_)
    refine v_lload C 0 rfl dL_at3_88 ?_
    refine v_iload C 1 rfl dL_at3_90 ?_
    refine v_i2l (v := lN64 (F (4 * k + 2))) C dL_at3_92 rfl ?_
    refine v_lmul C dL_at3_93 (v_eql (y := ((rowOf (oAL s) (oV s) (T (F (4 * k + 1))) q) * (lN64 (F (4 * k + 2))))) (rfl) ?_)
    refine v_ldc2 C KO_L_30 dL_at3_94 ?_
    refine v_callS (rest := []) C (c_L_down l hl G ((rowOf (oAL s) (oV s) (T (F (4 * k + 1))) q) * (lN64 (F (4 * k + 2)))) h) S_L_32 rfl rfl (Nat.le_of_ble_eq_true rfl) ⟨Nat.le_of_ble_eq_true rfl, Nat.le_of_ble_eq_true rfl⟩ ⟨Nat.le_of_ble_eq_true rfl, Nat.le_of_ble_eq_true rfl⟩ dL_at3_97 (fun l50 h50 q50 => ?_)
    obtain ⟨e50, rfl⟩ := q50; subst e50
    exact v_lret C hQ hr (Nat.le_of_ble_eq_true rfl) (Nat.le_of_ble_eq_true rfl) dL_at3_100 ⟨by rw [fT, row_share (he.w6 hw (k := F (4 * k + 1)) (by omega))], rfl⟩
  · refine v_aload_n C 2 rfl dL_at3_0 rfl ?_
    refine v_iconst (v := 4) C dL_at3_1 (by decide) ?_
    refine v_iload_n C 0 rfl dL_at3_2 rfl ?_
    refine v_imul C dL_at3_3 (v_eqi (nI_kml k 4 (by decide)) ?_)
    refine v_iald C hF (vpin (show 4 * k < 60 by omega) (by decide)) dL_at3_4 (v_eqi (y := nI 8) ((congrArg (fun j => nI (F j)) (nI_clamp (show 4 * k < 2 ^ 31 by omega))).trans (congrArg nI f0)) ?_)
    refine v_istore C [(5, .int (nI 8)), (0, .int (nI k)), (1, .int (nI q)), (2, .ref fa), (3, .ref aa), (4, .ref da)] rfl (by decide) dL_at3_5 ?_
    refine v_aload_n C 3 rfl dL_at3_7 rfl ?_
    refine v_iconst (v := 4) C dL_at3_8 (by decide) ?_
    refine v_iload_n C 1 rfl dL_at3_9 rfl ?_
    refine v_imul C dL_at3_10 (v_eqi (nI_kml k 4 (by decide)) ?_)
    refine v_iconst (v := 1) C dL_at3_11 (by decide) ?_
    refine v_iadd C dL_at3_12 (v_eqi (nI_adk (4 * k) 1 (by decide)) ?_)
    refine v_iald C hF (vpin (show 4 * k + 1 < 60 by omega) (by decide)) dL_at3_13 (v_eqi (y := nI (F (4 * k + 1))) (congrArg (fun j => nI (F j)) (nI_clamp (show 4 * k + 1 < 2 ^ 31 by omega))) ?_)
    refine v_istore C [(6, .int (nI (F (4 * k + 1)))), (5, .int (nI 8)), (0, .int (nI k)), (1, .int (nI q)), (2, .ref fa), (3, .ref aa), (4, .ref da)] rfl (by decide) dL_at3_14 ?_
    refine v_aload_n C 4 rfl dL_at3_16 rfl ?_
    refine v_iconst (v := 4) C dL_at3_17 (by decide) ?_
    refine v_iload_n C 2 rfl dL_at3_18 rfl ?_
    refine v_imul C dL_at3_19 (v_eqi (nI_kml k 4 (by decide)) ?_)
    refine v_iconst (v := 2) C dL_at3_20 (by decide) ?_
    refine v_iadd C dL_at3_21 (v_eqi (nI_adk (4 * k) 2 (by decide)) ?_)
    refine v_iald C hF (vpin (show 4 * k + 2 < 60 by omega) (by decide)) dL_at3_22 (v_eqi (y := nI (F (4 * k + 2))) (congrArg (fun j => nI (F j)) (nI_clamp (show 4 * k + 2 < 2 ^ 31 by omega))) ?_)
    refine v_istore C [(7, .int (nI (F (4 * k + 2)))), (6, .int (nI (F (4 * k + 1)))), (5, .int (nI 8)), (0, .int (nI k)), (1, .int (nI q)), (2, .ref fa), (3, .ref aa), (4, .ref da)] rfl (by decide) dL_at3_23 ?_
    refine v_iload C 2 rfl dL_at3_25 ?_
    refine v_iconst (v := 4) C dL_at3_27 (by decide) ?_
    refine v_icmp_eq (tgt := 37) C dL_at3_28 (by decide) (fun c56 => absurd c56 (by decide)) (fun c56 => ?_)
    refine v_iload C 2 rfl dL_at3_31 ?_
    refine v_iconst (v := 5) C dL_at3_33 (by decide) ?_
    refine v_icmp_ne (tgt := 45) C dL_at3_34 (by decide) (fun c57 => ?_) (fun c57 => absurd c57 (by decide))
    refine v_iload C 2 rfl dL_at3_45 ?_
    refine v_bipush (v := 6) C dL_at3_47 (by decide) ?_
    refine v_icmp_ne (tgt := 69) C dL_at3_49 (by decide) (fun c58 => ?_) (fun c58 => absurd c58 (by decide))
    refine v_iload C 1 rfl dL_at3_69 ?_
    refine v_iload_n C 4 rfl dL_at3_71 rfl ?_
    refine v_aload_n C 5 rfl dL_at3_72 rfl ?_
    refine v_aload_n C 6 rfl dL_at3_73 rfl ?_
    refine v_aload C 7 rfl dL_at3_74 ?_
    refine v_callS (rest := []) C (c_L_at2 l hl G fa aa da (F (4 * k + 1)) q M F A D T lv s h hw he hF hA hD (show F (4 * k + 1) < M by omega) (show lv (F (4 * k + 1)) ≤ 2 by omega) (by omega)) S_L_51 rfl rfl (Nat.le_of_ble_eq_true rfl) ⟨Nat.le_of_ble_eq_true rfl, Nat.le_of_ble_eq_true rfl⟩ ⟨Nat.le_of_ble_eq_true rfl, Nat.le_of_ble_eq_true rfl⟩ dL_at3_76 (fun l59 h59 q59 => ?_)
    obtain ⟨e59, rfl⟩ := q59; subst e59
    refine v_lstore C [(8, .long (rowOf (oAL s) (oV s) (T (F (4 * k + 1))) q)), (7, .int (nI (F (4 * k + 2)))), (6, .int (nI (F (4 * k + 1)))), (5, .int (nI 8)), (0, .int (nI k)), (1, .int (nI q)), (2, .ref fa), (3, .ref aa), (4, .ref da)] rfl (by decide) dL_at3_79 ?_
    refine v_iload C 3 rfl dL_at3_81 ?_
    refine v_bipush (v := 7) C dL_at3_83 (by decide) ?_
    refine v_icmp_ne (tgt := 101) C dL_at3_85 (by decide) (fun c60 => ?_) (fun c60 => absurd c60 (by decide))
    refine v_iload C 3 rfl dL_at3_101 ?_
    refine v_bipush (v := 8) C dL_at3_103 (by decide) ?_
    refine v_icmp_ne (tgt := 150) C dL_at3_105 (by decide) (fun c61 => absurd c61 (by decide)) (fun c61 => ?_)
    refine v_iconst (v := 1) C dL_at3_108 (by decide) ?_
    refine v_istore C [(10, .int 1), (8, .long (rowOf (oAL s) (oV s) (T (F (4 * k + 1))) q)), (7, .int (nI (F (4 * k + 2)))), (6, .int (nI (F (4 * k + 1)))), (5, .int (nI 8)), (0, .int (nI k)), (1, .int (nI q)), (2, .ref fa), (3, .ref aa), (4, .ref da)] rfl (by decide) dL_at3_109 ?_
    have L62 : ∀ (d : Nat) (b : Nat) (w : Int64), (1 ≤ b) → (b ≤ 4) → (w = syr (rowOf (oAL s) (oV s) (T (F (4 * k + 1)))) q b) → (4 < b + d) → V zp l ze (rmm 14 0 0) zs zm zargs zbelow zmeth zc G 11 Q h (0 + 0) (0 + 0) 111 [(10, .int (nI b)), (8, .long w), (0, .int (nI k)), (1, .int (nI q)), (2, .ref fa), (3, .ref aa), (4, .ref da), (5, .int (nI 8)), (6, .int (nI (F (4 * k + 1)))), (7, .int (nI (F (4 * k + 2))))] [] := by
      intro d
      induction d with
      | zero =>
        intro b w hb1 hb4 hwb hd
        exact absurd hd (by omega)
      | succ d ih62 =>
        intro b w hb1 hb4 hwb hd
        refine v_iload C 0 rfl dL_at3_111 ?_
        refine v_iconst (v := 4) C dL_at3_113 (by decide) ?_
        refine v_icmp_ge (tgt := 147) C dL_at3_114 (by decide) (fun c63 => ?_) (fun c63 => ?_)
        · have c63 := (nk_ge (a := b) 4 (by decide) (by omega) (by decide)).mp c63
          refine v_lload C 1 rfl dL_at3_147 ?_
          exact v_lret C hQ hr (Nat.le_of_ble_eq_true rfl) (Nat.le_of_ble_eq_true rfl) dL_at3_149 ⟨by rw [fT, row_year (he.w6 hw (k := F (4 * k + 1)) (by omega))]; exact hwb.trans (syr_stop_or (by omega)).symm, rfl⟩
        · have c63 := (nk_ge_f (a := b) 4 (by decide) (by omega) (by decide)).mp c63
          refine v_iload C 0 rfl dL_at3_117 ?_
          refine v_iload_n C 3 rfl dL_at3_119 rfl ?_
          refine v_icmp_gt (tgt := 147) C dL_at3_120 (by decide) (fun c64 => ?_) (fun c64 => ?_)
          · have c64 := (nn_gt (a := b) (b := q) (by omega) (by omega)).mp c64
            refine v_lload C 1 rfl dL_at3_147 ?_
            exact v_lret C hQ hr (Nat.le_of_ble_eq_true rfl) (Nat.le_of_ble_eq_true rfl) dL_at3_149 ⟨by rw [fT, row_year (he.w6 hw (k := F (4 * k + 1)) (by omega))]; exact hwb.trans (syr_stop_or (by omega)).symm, rfl⟩
          · have c64 := (nn_gt_f (a := b) (b := q) (by omega) (by omega)).mp c64
            refine v_lload C 1 rfl dL_at3_123 ?_
            refine v_iload C 8 rfl dL_at3_125 ?_
            refine v_iload_n C 3 rfl dL_at3_127 rfl ?_
            refine v_iload C 0 rfl dL_at3_128 ?_
            refine v_isub C dL_at3_130 (v_eqi (pk_sub (a := q) (b := b) (by omega)) ?_)
            refine v_aload_n C 4 rfl dL_at3_131 rfl ?_
            refine v_aload_n C 5 rfl dL_at3_132 rfl ?_
            refine v_aload C 6 rfl dL_at3_133 ?_
            refine v_callS (rest := [.long w]) C (c_L_at2 l hl G fa aa da (F (4 * k + 1)) (q - b) M F A D T lv s h hw he hF hA hD (show F (4 * k + 1) < M by omega) (show lv (F (4 * k + 1)) ≤ 2 by omega) (by omega)) S_L_51 rfl rfl (Nat.le_of_ble_eq_true rfl) ⟨Nat.le_of_ble_eq_true rfl, Nat.le_of_ble_eq_true rfl⟩ ⟨Nat.le_of_ble_eq_true rfl, Nat.le_of_ble_eq_true rfl⟩ dL_at3_135 (fun l66 h66 q66 => ?_)
            obtain ⟨e66, rfl⟩ := q66; subst e66
            refine v_ladd C dL_at3_138 (v_eql (y := (syr (rowOf (oAL s) (oV s) (T (F (4 * k + 1)))) q (b + 1))) ((congrArg (· + _) hwb).trans (syr_s (b := b) (by omega)).symm) ?_)
            refine v_lstore C [(8, .long (syr (rowOf (oAL s) (oV s) (T (F (4 * k + 1)))) q (b + 1))), (10, .int (nI b)), (0, .int (nI k)), (1, .int (nI q)), (2, .ref fa), (3, .ref aa), (4, .ref da), (5, .int (nI 8)), (6, .int (nI (F (4 * k + 1)))), (7, .int (nI (F (4 * k + 2))))] rfl (by decide) dL_at3_139 ?_
            refine v_iinc C 1 [(10, .int (nI (b + 1))), (8, .long (syr (rowOf (oAL s) (oV s) (T (F (4 * k + 1)))) q (b + 1))), (0, .int (nI k)), (1, .int (nI q)), (2, .ref fa), (3, .ref aa), (4, .ref da), (5, .int (nI 8)), (6, .int (nI (F (4 * k + 1)))), (7, .int (nI (F (4 * k + 2))))] rfl (nI_inc b 1 (by decide)) rfl (by decide) dL_at3_141 ?_
            refine v_goto (tgt := 111) C dL_at3_144 (by decide) ?_
            refine v_lvp [0, 1, 2, 3, 4, 5, 6, 7, 8, 9] rfl ?_
            exact ih62 (b + 1) _ (by omega) (by omega) rfl (by omega)
    refine v_lvp [0, 1, 5, 6, 7, 8, 9, 4, 3, 2] rfl ?_
    exact L62 5 1 _ (by omega) (by omega) (show _ = syr (rowOf (oAL s) (oV s) (T (F (4 * k + 1)))) q 0 + rowOf (oAL s) (oV s) (T (F (4 * k + 1))) (q - 0) from (Int64.zero_add _).symm) (by omega)
set_option maxHeartbeats 4000000 in
set_option maxRecDepth 100000 in
theorem c_L_at4 (l : Launch) (hl : l.stackTraces = false) (G : zG) (fa aa da k q M : Nat) (F : Nat → Nat) (A D : Nat → Int32) (T : Nat → List Tok) (lv : Nat → Nat) (s : ZS) (h : zH) (hw : WFs s) (he : EV s F A D T lv M) (hF : iC G h fa 60 (fN F)) (hA : iC G h aa 60 A) (hD : iC G h da 60 D) (hk : k < M) (hv : lv k ≤ 4) (hq : q < 9) : zMet eL l yL_at4 cL_at4 11 (some .long) 15 0 0 G [.int (nI k), .int (nI q), .ref fa, .ref aa, .ref da] h (fun r h2 => r = rowOf (oAL s) (oV s) (T k) q ∧ h = h2) := by
  refine con_of hl RL rfl (by decide +kernel) [(0, .int (nI k)), (1, .int (nI q)), (2, .ref fa), (3, .ref aa), (4, .ref da)] rfl (Nat.le_of_ble_eq_true rfl) ?_
  intro zp ze zs zm zargs zbelow zmeth zc C hr hin Q hQ
  have hM := he.1
  have hN6 := he.2.1
  obtain ⟨l1, l6, l3, hFE⟩ := he.2.2.1 k hk
  rcases hFE with ⟨f0, f1, fT, fl⟩ | ⟨f0, f1, fT, fl⟩ | ⟨f0, f1, fT, fl⟩ | ⟨f0, f1, f2, fT, fl⟩ | ⟨f0, f1, f2, fT, fl⟩ | ⟨f0, f1, fT, fl⟩
  · refine v_aload_n C 2 rfl dL_at4_0 rfl ?_
    refine v_iconst (v := 4) C dL_at4_1 (by decide) ?_
    refine v_iload_n C 0 rfl dL_at4_2 rfl ?_
    refine v_imul C dL_at4_3 (v_eqi (nI_kml k 4 (by decide)) ?_)
    refine v_iald C hF (vpin (show 4 * k < 60 by omega) (by decide)) dL_at4_4 (v_eqi (y := nI 4) ((congrArg (fun j => nI (F j)) (nI_clamp (show 4 * k < 2 ^ 31 by omega))).trans (congrArg nI f0)) ?_)
    refine v_istore C [(5, .int (nI 4)), (0, .int (nI k)), (1, .int (nI q)), (2, .ref fa), (3, .ref aa), (4, .ref da)] rfl (by decide) dL_at4_5 ?_
    refine v_aload_n C 3 rfl dL_at4_7 rfl ?_
    refine v_iconst (v := 4) C dL_at4_8 (by decide) ?_
    refine v_iload_n C 1 rfl dL_at4_9 rfl ?_
    refine v_imul C dL_at4_10 (v_eqi (nI_kml k 4 (by decide)) ?_)
    refine v_iconst (v := 1) C dL_at4_11 (by decide) ?_
    refine v_iadd C dL_at4_12 (v_eqi (nI_adk (4 * k) 1 (by decide)) ?_)
    refine v_iald C hF (vpin (show 4 * k + 1 < 60 by omega) (by decide)) dL_at4_13 (v_eqi (y := nI (F (4 * k + 1))) (congrArg (fun j => nI (F j)) (nI_clamp (show 4 * k + 1 < 2 ^ 31 by omega))) ?_)
    refine v_istore C [(6, .int (nI (F (4 * k + 1)))), (5, .int (nI 4)), (0, .int (nI k)), (1, .int (nI q)), (2, .ref fa), (3, .ref aa), (4, .ref da)] rfl (by decide) dL_at4_14 ?_
    refine v_aload_n C 4 rfl dL_at4_16 rfl ?_
    refine v_iconst (v := 4) C dL_at4_17 (by decide) ?_
    refine v_iload_n C 2 rfl dL_at4_18 rfl ?_
    refine v_imul C dL_at4_19 (v_eqi (nI_kml k 4 (by decide)) ?_)
    refine v_iconst (v := 2) C dL_at4_20 (by decide) ?_
    refine v_iadd C dL_at4_21 (v_eqi (nI_adk (4 * k) 2 (by decide)) ?_)
    refine v_iald C hF (vpin (show 4 * k + 2 < 60 by omega) (by decide)) dL_at4_22 (v_eqi (y := nI (F (4 * k + 2))) (congrArg (fun j => nI (F j)) (nI_clamp (show 4 * k + 2 < 2 ^ 31 by omega))) ?_)
    refine v_istore C [(7, .int (nI (F (4 * k + 2)))), (6, .int (nI (F (4 * k + 1)))), (5, .int (nI 4)), (0, .int (nI k)), (1, .int (nI q)), (2, .ref fa), (3, .ref aa), (4, .ref da)] rfl (by decide) dL_at4_23 ?_
    refine v_iload C 2 rfl dL_at4_25 ?_
    refine v_iconst (v := 4) C dL_at4_27 (by decide) ?_
    refine v_icmp_eq (tgt := 37) C dL_at4_28 (by decide) (fun c6 => ?_) (fun c6 => absurd c6 (by decide))
    refine v_iload_n C 3 rfl dL_at4_37 rfl ?_
    refine v_iload_n C 4 rfl dL_at4_38 rfl ?_
    refine v_aload_n C 5 rfl dL_at4_39 rfl ?_
    refine v_aload_n C 6 rfl dL_at4_40 rfl ?_
    refine v_callS (rest := []) C (c_L_at1 l hl G fa aa da k q M F A D T lv s h hw he hF hA hk (by omega) hq) S_L_22 rfl rfl (Nat.le_of_ble_eq_true rfl) ⟨Nat.le_of_ble_eq_true rfl, Nat.le_of_ble_eq_true rfl⟩ ⟨Nat.le_of_ble_eq_true rfl, Nat.le_of_ble_eq_true rfl⟩ dL_at4_41 (fun l7 h7 q7 => ?_)
    obtain ⟨e7, rfl⟩ := q7; subst e7
    exact v_lret C hQ hr (Nat.le_of_ble_eq_true rfl) (Nat.le_of_ble_eq_true rfl) dL_at4_44 ⟨rfl, rfl⟩
  · refine v_aload_n C 2 rfl dL_at4_0 rfl ?_
    refine v_iconst (v := 4) C dL_at4_1 (by decide) ?_
    refine v_iload_n C 0 rfl dL_at4_2 rfl ?_
    refine v_imul C dL_at4_3 (v_eqi (nI_kml k 4 (by decide)) ?_)
    refine v_iald C hF (vpin (show 4 * k < 60 by omega) (by decide)) dL_at4_4 (v_eqi (y := nI 5) ((congrArg (fun j => nI (F j)) (nI_clamp (show 4 * k < 2 ^ 31 by omega))).trans (congrArg nI f0)) ?_)
    refine v_istore C [(5, .int (nI 5)), (0, .int (nI k)), (1, .int (nI q)), (2, .ref fa), (3, .ref aa), (4, .ref da)] rfl (by decide) dL_at4_5 ?_
    refine v_aload_n C 3 rfl dL_at4_7 rfl ?_
    refine v_iconst (v := 4) C dL_at4_8 (by decide) ?_
    refine v_iload_n C 1 rfl dL_at4_9 rfl ?_
    refine v_imul C dL_at4_10 (v_eqi (nI_kml k 4 (by decide)) ?_)
    refine v_iconst (v := 1) C dL_at4_11 (by decide) ?_
    refine v_iadd C dL_at4_12 (v_eqi (nI_adk (4 * k) 1 (by decide)) ?_)
    refine v_iald C hF (vpin (show 4 * k + 1 < 60 by omega) (by decide)) dL_at4_13 (v_eqi (y := nI (F (4 * k + 1))) (congrArg (fun j => nI (F j)) (nI_clamp (show 4 * k + 1 < 2 ^ 31 by omega))) ?_)
    refine v_istore C [(6, .int (nI (F (4 * k + 1)))), (5, .int (nI 5)), (0, .int (nI k)), (1, .int (nI q)), (2, .ref fa), (3, .ref aa), (4, .ref da)] rfl (by decide) dL_at4_14 ?_
    refine v_aload_n C 4 rfl dL_at4_16 rfl ?_
    refine v_iconst (v := 4) C dL_at4_17 (by decide) ?_
    refine v_iload_n C 2 rfl dL_at4_18 rfl ?_
    refine v_imul C dL_at4_19 (v_eqi (nI_kml k 4 (by decide)) ?_)
    refine v_iconst (v := 2) C dL_at4_20 (by decide) ?_
    refine v_iadd C dL_at4_21 (v_eqi (nI_adk (4 * k) 2 (by decide)) ?_)
    refine v_iald C hF (vpin (show 4 * k + 2 < 60 by omega) (by decide)) dL_at4_22 (v_eqi (y := nI (F (4 * k + 2))) (congrArg (fun j => nI (F j)) (nI_clamp (show 4 * k + 2 < 2 ^ 31 by omega))) ?_)
    refine v_istore C [(7, .int (nI (F (4 * k + 2)))), (6, .int (nI (F (4 * k + 1)))), (5, .int (nI 5)), (0, .int (nI k)), (1, .int (nI q)), (2, .ref fa), (3, .ref aa), (4, .ref da)] rfl (by decide) dL_at4_23 ?_
    refine v_iload C 2 rfl dL_at4_25 ?_
    refine v_iconst (v := 4) C dL_at4_27 (by decide) ?_
    refine v_icmp_eq (tgt := 37) C dL_at4_28 (by decide) (fun c13 => absurd c13 (by decide)) (fun c13 => ?_)
    refine v_iload C 2 rfl dL_at4_31 ?_
    refine v_iconst (v := 5) C dL_at4_33 (by decide) ?_
    refine v_icmp_ne (tgt := 45) C dL_at4_34 (by decide) (fun c14 => absurd c14 (by decide)) (fun c14 => ?_)
    refine v_iload_n C 3 rfl dL_at4_37 rfl ?_
    refine v_iload_n C 4 rfl dL_at4_38 rfl ?_
    refine v_aload_n C 5 rfl dL_at4_39 rfl ?_
    refine v_aload_n C 6 rfl dL_at4_40 rfl ?_
    refine v_callS (rest := []) C (c_L_at1 l hl G fa aa da k q M F A D T lv s h hw he hF hA hk (by omega) hq) S_L_22 rfl rfl (Nat.le_of_ble_eq_true rfl) ⟨Nat.le_of_ble_eq_true rfl, Nat.le_of_ble_eq_true rfl⟩ ⟨Nat.le_of_ble_eq_true rfl, Nat.le_of_ble_eq_true rfl⟩ dL_at4_41 (fun l15 h15 q15 => ?_)
    obtain ⟨e15, rfl⟩ := q15; subst e15
    exact v_lret C hQ hr (Nat.le_of_ble_eq_true rfl) (Nat.le_of_ble_eq_true rfl) dL_at4_44 ⟨rfl, rfl⟩
  · refine v_aload_n C 2 rfl dL_at4_0 rfl ?_
    refine v_iconst (v := 4) C dL_at4_1 (by decide) ?_
    refine v_iload_n C 0 rfl dL_at4_2 rfl ?_
    refine v_imul C dL_at4_3 (v_eqi (nI_kml k 4 (by decide)) ?_)
    refine v_iald C hF (vpin (show 4 * k < 60 by omega) (by decide)) dL_at4_4 (v_eqi (y := nI 6) ((congrArg (fun j => nI (F j)) (nI_clamp (show 4 * k < 2 ^ 31 by omega))).trans (congrArg nI f0)) ?_)
    refine v_istore C [(5, .int (nI 6)), (0, .int (nI k)), (1, .int (nI q)), (2, .ref fa), (3, .ref aa), (4, .ref da)] rfl (by decide) dL_at4_5 ?_
    refine v_aload_n C 3 rfl dL_at4_7 rfl ?_
    refine v_iconst (v := 4) C dL_at4_8 (by decide) ?_
    refine v_iload_n C 1 rfl dL_at4_9 rfl ?_
    refine v_imul C dL_at4_10 (v_eqi (nI_kml k 4 (by decide)) ?_)
    refine v_iconst (v := 1) C dL_at4_11 (by decide) ?_
    refine v_iadd C dL_at4_12 (v_eqi (nI_adk (4 * k) 1 (by decide)) ?_)
    refine v_iald C hF (vpin (show 4 * k + 1 < 60 by omega) (by decide)) dL_at4_13 (v_eqi (y := nI (F (4 * k + 1))) (congrArg (fun j => nI (F j)) (nI_clamp (show 4 * k + 1 < 2 ^ 31 by omega))) ?_)
    refine v_istore C [(6, .int (nI (F (4 * k + 1)))), (5, .int (nI 6)), (0, .int (nI k)), (1, .int (nI q)), (2, .ref fa), (3, .ref aa), (4, .ref da)] rfl (by decide) dL_at4_14 ?_
    refine v_aload_n C 4 rfl dL_at4_16 rfl ?_
    refine v_iconst (v := 4) C dL_at4_17 (by decide) ?_
    refine v_iload_n C 2 rfl dL_at4_18 rfl ?_
    refine v_imul C dL_at4_19 (v_eqi (nI_kml k 4 (by decide)) ?_)
    refine v_iconst (v := 2) C dL_at4_20 (by decide) ?_
    refine v_iadd C dL_at4_21 (v_eqi (nI_adk (4 * k) 2 (by decide)) ?_)
    refine v_iald C hF (vpin (show 4 * k + 2 < 60 by omega) (by decide)) dL_at4_22 (v_eqi (y := nI (F (4 * k + 2))) (congrArg (fun j => nI (F j)) (nI_clamp (show 4 * k + 2 < 2 ^ 31 by omega))) ?_)
    refine v_istore C [(7, .int (nI (F (4 * k + 2)))), (6, .int (nI (F (4 * k + 1)))), (5, .int (nI 6)), (0, .int (nI k)), (1, .int (nI q)), (2, .ref fa), (3, .ref aa), (4, .ref da)] rfl (by decide) dL_at4_23 ?_
    refine v_iload C 2 rfl dL_at4_25 ?_
    refine v_iconst (v := 4) C dL_at4_27 (by decide) ?_
    refine v_icmp_eq (tgt := 37) C dL_at4_28 (by decide) (fun c21 => absurd c21 (by decide)) (fun c21 => ?_)
    refine v_iload C 2 rfl dL_at4_31 ?_
    refine v_iconst (v := 5) C dL_at4_33 (by decide) ?_
    refine v_icmp_ne (tgt := 45) C dL_at4_34 (by decide) (fun c22 => ?_) (fun c22 => absurd c22 (by decide))
    refine v_iload C 2 rfl dL_at4_45 ?_
    refine v_bipush (v := 6) C dL_at4_47 (by decide) ?_
    refine v_icmp_ne (tgt := 69) C dL_at4_49 (by decide) (fun c23 => absurd c23 (by decide)) (fun c23 => ?_)
    refine v_iload C 1 rfl dL_at4_52 ?_
    refine v_iload_n C 4 rfl dL_at4_54 rfl ?_
    refine v_aload C 7 rfl dL_at4_55 ?_
    obtain ⟨k2, hk2, hh2, hv2, -, ho2⟩ := he.held hw f1 (q := q) (by omega)
    refine v_callS (rest := []) C (c_L_holds l hl G (F (4 * k + 1)) q da D h hD (by omega) (by omega) (EV.d0 he hw f1)) S_L_26 rfl rfl (Nat.le_of_ble_eq_true rfl) ⟨Nat.le_of_ble_eq_true rfl, Nat.le_of_ble_eq_true rfl⟩ ⟨Nat.le_of_ble_eq_true rfl, Nat.le_of_ble_eq_true rfl⟩ dL_at4_57 (fun i24 h24 q24 => ?_)
    obtain ⟨e24, rfl⟩ := q24; rw [hh2] at e24; subst e24
    refine v_iload_n C 4 rfl dL_at4_60 rfl ?_
    refine v_aload_n C 5 rfl dL_at4_61 rfl ?_
    refine v_aload_n C 6 rfl dL_at4_62 rfl ?_
    refine v_aload C 7 rfl dL_at4_63 ?_
    refine v_callS (rest := []) C (c_L_at3 l hl G fa aa da k2 q M F A D T lv s h hw he hF hA hD hk2 (by omega) hq) S_L_61 rfl rfl (Nat.le_of_ble_eq_true rfl) ⟨Nat.le_of_ble_eq_true rfl, Nat.le_of_ble_eq_true rfl⟩ ⟨Nat.le_of_ble_eq_true rfl, Nat.le_of_ble_eq_true rfl⟩ dL_at4_65 (fun l25 h25 q25 => ?_)
    obtain ⟨e25, rfl⟩ := q25; subst e25
    exact v_lret C hQ hr (Nat.le_of_ble_eq_true rfl) (Nat.le_of_ble_eq_true rfl) dL_at4_68 ⟨by rw [fT]; exact ho2.symm, rfl⟩
  · refine v_aload_n C 2 rfl dL_at4_0 rfl ?_
    refine v_iconst (v := 4) C dL_at4_1 (by decide) ?_
    refine v_iload_n C 0 rfl dL_at4_2 rfl ?_
    refine v_imul C dL_at4_3 (v_eqi (nI_kml k 4 (by decide)) ?_)
    refine v_iald C hF (vpin (show 4 * k < 60 by omega) (by decide)) dL_at4_4 (v_eqi (y := nI (F (4 * k))) ((congrArg (fun j => nI (F j)) (nI_clamp (show 4 * k < 2 ^ 31 by omega))).trans (congrArg nI rfl)) ?_)
    refine v_istore C [(5, .int (nI (F (4 * k)))), (0, .int (nI k)), (1, .int (nI q)), (2, .ref fa), (3, .ref aa), (4, .ref da)] rfl (by decide) dL_at4_5 ?_
    refine v_aload_n C 3 rfl dL_at4_7 rfl ?_
    refine v_iconst (v := 4) C dL_at4_8 (by decide) ?_
    refine v_iload_n C 1 rfl dL_at4_9 rfl ?_
    refine v_imul C dL_at4_10 (v_eqi (nI_kml k 4 (by decide)) ?_)
    refine v_iconst (v := 1) C dL_at4_11 (by decide) ?_
    refine v_iadd C dL_at4_12 (v_eqi (nI_adk (4 * k) 1 (by decide)) ?_)
    refine v_iald C hF (vpin (show 4 * k + 1 < 60 by omega) (by decide)) dL_at4_13 (v_eqi (y := nI (F (4 * k + 1))) (congrArg (fun j => nI (F j)) (nI_clamp (show 4 * k + 1 < 2 ^ 31 by omega))) ?_)
    refine v_istore C [(6, .int (nI (F (4 * k + 1)))), (5, .int (nI (F (4 * k)))), (0, .int (nI k)), (1, .int (nI q)), (2, .ref fa), (3, .ref aa), (4, .ref da)] rfl (by decide) dL_at4_14 ?_
    refine v_aload_n C 4 rfl dL_at4_16 rfl ?_
    refine v_iconst (v := 4) C dL_at4_17 (by decide) ?_
    refine v_iload_n C 2 rfl dL_at4_18 rfl ?_
    refine v_imul C dL_at4_19 (v_eqi (nI_kml k 4 (by decide)) ?_)
    refine v_iconst (v := 2) C dL_at4_20 (by decide) ?_
    refine v_iadd C dL_at4_21 (v_eqi (nI_adk (4 * k) 2 (by decide)) ?_)
    refine v_iald C hF (vpin (show 4 * k + 2 < 60 by omega) (by decide)) dL_at4_22 (v_eqi (y := nI (F (4 * k + 2))) (congrArg (fun j => nI (F j)) (nI_clamp (show 4 * k + 2 < 2 ^ 31 by omega))) ?_)
    refine v_istore C [(7, .int (nI (F (4 * k + 2)))), (6, .int (nI (F (4 * k + 1)))), (5, .int (nI (F (4 * k)))), (0, .int (nI k)), (1, .int (nI q)), (2, .ref fa), (3, .ref aa), (4, .ref da)] rfl (by decide) dL_at4_23 ?_
    refine v_iload C 2 rfl dL_at4_25 ?_
    refine v_iconst (v := 4) C dL_at4_27 (by decide) ?_
    refine v_icmp_eq (tgt := 37) C dL_at4_28 (by decide) (fun c31 => absurd ((nk_eq (a := F (4 * k)) 4 (by decide) (by omega) (by decide)).mp c31) (by omega)) (fun c31 => ?_)
    have c31 := (nk_eq_f (a := (F (4 * k))) 4 (by decide) (by omega) (by decide)).mp c31
    refine v_iload C 2 rfl dL_at4_31 ?_
    refine v_iconst (v := 5) C dL_at4_33 (by decide) ?_
    refine v_icmp_ne (tgt := 45) C dL_at4_34 (by decide) (fun c32 => ?_) (fun c32 => absurd ((nk_ne_f (a := F (4 * k)) 5 (by decide) (by omega) (by decide)).mp c32) (by omega))
    have c32 := (nk_ne (a := (F (4 * k))) 5 (by decide) (by omega) (by decide)).mp c32
    refine v_iload C 2 rfl dL_at4_45 ?_
    refine v_bipush (v := 6) C dL_at4_47 (by decide) ?_
    refine v_icmp_ne (tgt := 69) C dL_at4_49 (by decide) (fun c33 => ?_) (fun c33 => absurd ((nk_ne_f (a := F (4 * k)) 6 (by decide) (by omega) (by decide)).mp c33) (by omega))
    have c33 := (nk_ne (a := (F (4 * k))) 6 (by decide) (by omega) (by decide)).mp c33
    refine v_iload C 1 rfl dL_at4_69 ?_
    refine v_iload_n C 4 rfl dL_at4_71 rfl ?_
    refine v_aload_n C 5 rfl dL_at4_72 rfl ?_
    refine v_aload_n C 6 rfl dL_at4_73 rfl ?_
    refine v_aload C 7 rfl dL_at4_74 ?_
    refine v_callS (rest := []) C (c_L_at3 l hl G fa aa da (F (4 * k + 1)) q M F A D T lv s h hw he hF hA hD (show F (4 * k + 1) < M by omega) (show lv (F (4 * k + 1)) ≤ 3 by omega) (by omega)) S_L_61 rfl rfl (Nat.le_of_ble_eq_true rfl) ⟨Nat.le_of_ble_eq_true rfl, Nat.le_of_ble_eq_true rfl⟩ ⟨Nat.le_of_ble_eq_true rfl, Nat.le_of_ble_eq_true rfl⟩ dL_at4_76 (fun l34 h34 q34 => ?_)
    obtain ⟨e34, rfl⟩ := q34; subst e34
    refine v_lstore C [(8, .long (rowOf (oAL s) (oV s) (T (F (4 * k + 1))) q)), (7, .int (nI (F (4 * k + 2)))), (6, .int (nI (F (4 * k + 1)))), (5, .int (nI (F (4 * k)))), (0, .int (nI k)), (1, .int (nI q)), (2, .ref fa), (3, .ref aa), (4, .ref da)] rfl (by decide) dL_at4_79 ?_
    refine v_iload C 3 rfl dL_at4_81 ?_
    refine v_bipush (v := 7) C dL_at4_83 (by decide) ?_
    refine v_icmp_ne (tgt := 101) C dL_at4_85 (by decide) (fun c35 => ?_) (fun c35 => absurd ((nk_ne_f (a := F (4 * k)) 7 (by decide) (by omega) (by decide)).mp c35) (by omega))
    have c35 := (nk_ne (a := (F (4 * k))) 7 (by decide) (by omega) (by decide)).mp c35
    refine v_iload C 3 rfl dL_at4_101 ?_
    refine v_bipush (v := 8) C dL_at4_103 (by decide) ?_
    refine v_icmp_ne (tgt := 150) C dL_at4_105 (by decide) (fun c36 => ?_) (fun c36 => absurd ((nk_ne_f (a := F (4 * k)) 8 (by decide) (by omega) (by decide)).mp c36) (by omega))
    have c36 := (nk_ne (a := (F (4 * k))) 8 (by decide) (by omega) (by decide)).mp c36
    refine v_iload C 3 rfl dL_at4_150 ?_
    refine v_lload C 0 rfl dL_at4_152 ?_
    refine v_iload C 1 rfl dL_at4_154 ?_
    refine v_iload_n C 5 rfl dL_at4_156 rfl ?_
    refine v_aload_n C 6 rfl dL_at4_157 rfl ?_
    refine v_aload_n C 7 rfl dL_at4_158 rfl ?_
    refine v_aload C 8 rfl dL_at4_159 ?_
    refine v_callS (rest := [.long (rowOf (oAL s) (oV s) (T (F (4 * k + 1))) q), .int (nI (F (4 * k)))]) C (c_L_at3 l hl G fa aa da (F (4 * k + 2)) q M F A D T lv s h hw he hF hA hD (show F (4 * k + 2) < M by omega) (show lv (F (4 * k + 2)) ≤ 3 by omega) (by omega)) S_L_61 rfl rfl (Nat.le_of_ble_eq_true rfl) ⟨Nat.le_of_ble_eq_true rfl, Nat.le_of_ble_eq_true rfl⟩ ⟨Nat.le_of_ble_eq_true rfl, Nat.le_of_ble_eq_true rfl⟩ dL_at4_161 (fun l37 h37 q37 => ?_)
    obtain ⟨e37, rfl⟩ := q37; subst e37
    refine v_callS (rest := []) C (c_L_join l hl G (F (4 * k)) (rowOf (oAL s) (oV s) (T (F (4 * k + 1))) q) (rowOf (oAL s) (oV s) (T (F (4 * k + 2))) q) h f0) S_L_36 rfl rfl (Nat.le_of_ble_eq_true rfl) ⟨Nat.le_of_ble_eq_true rfl, Nat.le_of_ble_eq_true rfl⟩ ⟨Nat.le_of_ble_eq_true rfl, Nat.le_of_ble_eq_true rfl⟩ dL_at4_164 (fun l38 h38 q38 => ?_)
    obtain ⟨e38, rfl⟩ := q38; subst e38
    exact v_lret C hQ hr (Nat.le_of_ble_eq_true rfl) (Nat.le_of_ble_eq_true rfl) dL_at4_167 ⟨by rw [fT, row_join (he.w6 hw (k := F (4 * k + 1)) (by omega)) (he.w6 hw (k := F (4 * k + 2)) (by omega)) f0], rfl⟩
  · refine v_aload_n C 2 rfl dL_at4_0 rfl ?_
    refine v_iconst (v := 4) C dL_at4_1 (by decide) ?_
    refine v_iload_n C 0 rfl dL_at4_2 rfl ?_
    refine v_imul C dL_at4_3 (v_eqi (nI_kml k 4 (by decide)) ?_)
    refine v_iald C hF (vpin (show 4 * k < 60 by omega) (by decide)) dL_at4_4 (v_eqi (y := nI 7) ((congrArg (fun j => nI (F j)) (nI_clamp (show 4 * k < 2 ^ 31 by omega))).trans (congrArg nI f0)) ?_)
    refine v_istore C [(5, .int (nI 7)), (0, .int (nI k)), (1, .int (nI q)), (2, .ref fa), (3, .ref aa), (4, .ref da)] rfl (by decide) dL_at4_5 ?_
    refine v_aload_n C 3 rfl dL_at4_7 rfl ?_
    refine v_iconst (v := 4) C dL_at4_8 (by decide) ?_
    refine v_iload_n C 1 rfl dL_at4_9 rfl ?_
    refine v_imul C dL_at4_10 (v_eqi (nI_kml k 4 (by decide)) ?_)
    refine v_iconst (v := 1) C dL_at4_11 (by decide) ?_
    refine v_iadd C dL_at4_12 (v_eqi (nI_adk (4 * k) 1 (by decide)) ?_)
    refine v_iald C hF (vpin (show 4 * k + 1 < 60 by omega) (by decide)) dL_at4_13 (v_eqi (y := nI (F (4 * k + 1))) (congrArg (fun j => nI (F j)) (nI_clamp (show 4 * k + 1 < 2 ^ 31 by omega))) ?_)
    refine v_istore C [(6, .int (nI (F (4 * k + 1)))), (5, .int (nI 7)), (0, .int (nI k)), (1, .int (nI q)), (2, .ref fa), (3, .ref aa), (4, .ref da)] rfl (by decide) dL_at4_14 ?_
    refine v_aload_n C 4 rfl dL_at4_16 rfl ?_
    refine v_iconst (v := 4) C dL_at4_17 (by decide) ?_
    refine v_iload_n C 2 rfl dL_at4_18 rfl ?_
    refine v_imul C dL_at4_19 (v_eqi (nI_kml k 4 (by decide)) ?_)
    refine v_iconst (v := 2) C dL_at4_20 (by decide) ?_
    refine v_iadd C dL_at4_21 (v_eqi (nI_adk (4 * k) 2 (by decide)) ?_)
    refine v_iald C hF (vpin (show 4 * k + 2 < 60 by omega) (by decide)) dL_at4_22 (v_eqi (y := nI (F (4 * k + 2))) (congrArg (fun j => nI (F j)) (nI_clamp (show 4 * k + 2 < 2 ^ 31 by omega))) ?_)
    refine v_istore C [(7, .int (nI (F (4 * k + 2)))), (6, .int (nI (F (4 * k + 1)))), (5, .int (nI 7)), (0, .int (nI k)), (1, .int (nI q)), (2, .ref fa), (3, .ref aa), (4, .ref da)] rfl (by decide) dL_at4_23 ?_
    refine v_iload C 2 rfl dL_at4_25 ?_
    refine v_iconst (v := 4) C dL_at4_27 (by decide) ?_
    refine v_icmp_eq (tgt := 37) C dL_at4_28 (by decide) (fun c44 => absurd c44 (by decide)) (fun c44 => ?_)
    refine v_iload C 2 rfl dL_at4_31 ?_
    refine v_iconst (v := 5) C dL_at4_33 (by decide) ?_
    refine v_icmp_ne (tgt := 45) C dL_at4_34 (by decide) (fun c45 => ?_) (fun c45 => absurd c45 (by decide))
    refine v_iload C 2 rfl dL_at4_45 ?_
    refine v_bipush (v := 6) C dL_at4_47 (by decide) ?_
    refine v_icmp_ne (tgt := 69) C dL_at4_49 (by decide) (fun c46 => ?_) (fun c46 => absurd c46 (by decide))
    refine v_iload C 1 rfl dL_at4_69 ?_
    refine v_iload_n C 4 rfl dL_at4_71 rfl ?_
    refine v_aload_n C 5 rfl dL_at4_72 rfl ?_
    refine v_aload_n C 6 rfl dL_at4_73 rfl ?_
    refine v_aload C 7 rfl dL_at4_74 ?_
    refine v_callS (rest := []) C (c_L_at3 l hl G fa aa da (F (4 * k + 1)) q M F A D T lv s h hw he hF hA hD (show F (4 * k + 1) < M by omega) (show lv (F (4 * k + 1)) ≤ 3 by omega) (by omega)) S_L_61 rfl rfl (Nat.le_of_ble_eq_true rfl) ⟨Nat.le_of_ble_eq_true rfl, Nat.le_of_ble_eq_true rfl⟩ ⟨Nat.le_of_ble_eq_true rfl, Nat.le_of_ble_eq_true rfl⟩ dL_at4_76 (fun l47 h47 q47 => ?_)
    obtain ⟨e47, rfl⟩ := q47; subst e47
    refine v_lstore C [(8, .long (rowOf (oAL s) (oV s) (T (F (4 * k + 1))) q)), (7, .int (nI (F (4 * k + 2)))), (6, .int (nI (F (4 * k + 1)))), (5, .int (nI 7)), (0, .int (nI k)), (1, .int (nI q)), (2, .ref fa), (3, .ref aa), (4, .ref da)] rfl (by decide) dL_at4_79 ?_
    refine v_iload C 3 rfl dL_at4_81 ?_
    refine v_bipush (v := 7) C dL_at4_83 (by decide) ?_
    refine v_icmp_ne (tgt := 101) C dL_at4_85 (by decide) (fun c48 => absurd c48 (by decide)) (fun c48 => ?_)
    refine v_lload C 0 rfl dL_at4_88 ?_
    refine v_iload C 1 rfl dL_at4_90 ?_
    refine v_i2l (v := lN64 (F (4 * k + 2))) C dL_at4_92 rfl ?_
    refine v_lmul C dL_at4_93 (v_eql (y := ((rowOf (oAL s) (oV s) (T (F (4 * k + 1))) q) * (lN64 (F (4 * k + 2))))) (rfl) ?_)
    refine v_ldc2 C KO_L_30 dL_at4_94 ?_
    refine v_callS (rest := []) C (c_L_down l hl G ((rowOf (oAL s) (oV s) (T (F (4 * k + 1))) q) * (lN64 (F (4 * k + 2)))) h) S_L_32 rfl rfl (Nat.le_of_ble_eq_true rfl) ⟨Nat.le_of_ble_eq_true rfl, Nat.le_of_ble_eq_true rfl⟩ ⟨Nat.le_of_ble_eq_true rfl, Nat.le_of_ble_eq_true rfl⟩ dL_at4_97 (fun l50 h50 q50 => ?_)
    obtain ⟨e50, rfl⟩ := q50; subst e50
    exact v_lret C hQ hr (Nat.le_of_ble_eq_true rfl) (Nat.le_of_ble_eq_true rfl) dL_at4_100 ⟨by rw [fT, row_share (he.w6 hw (k := F (4 * k + 1)) (by omega))], rfl⟩
  · refine v_aload_n C 2 rfl dL_at4_0 rfl ?_
    refine v_iconst (v := 4) C dL_at4_1 (by decide) ?_
    refine v_iload_n C 0 rfl dL_at4_2 rfl ?_
    refine v_imul C dL_at4_3 (v_eqi (nI_kml k 4 (by decide)) ?_)
    refine v_iald C hF (vpin (show 4 * k < 60 by omega) (by decide)) dL_at4_4 (v_eqi (y := nI 8) ((congrArg (fun j => nI (F j)) (nI_clamp (show 4 * k < 2 ^ 31 by omega))).trans (congrArg nI f0)) ?_)
    refine v_istore C [(5, .int (nI 8)), (0, .int (nI k)), (1, .int (nI q)), (2, .ref fa), (3, .ref aa), (4, .ref da)] rfl (by decide) dL_at4_5 ?_
    refine v_aload_n C 3 rfl dL_at4_7 rfl ?_
    refine v_iconst (v := 4) C dL_at4_8 (by decide) ?_
    refine v_iload_n C 1 rfl dL_at4_9 rfl ?_
    refine v_imul C dL_at4_10 (v_eqi (nI_kml k 4 (by decide)) ?_)
    refine v_iconst (v := 1) C dL_at4_11 (by decide) ?_
    refine v_iadd C dL_at4_12 (v_eqi (nI_adk (4 * k) 1 (by decide)) ?_)
    refine v_iald C hF (vpin (show 4 * k + 1 < 60 by omega) (by decide)) dL_at4_13 (v_eqi (y := nI (F (4 * k + 1))) (congrArg (fun j => nI (F j)) (nI_clamp (show 4 * k + 1 < 2 ^ 31 by omega))) ?_)
    refine v_istore C [(6, .int (nI (F (4 * k + 1)))), (5, .int (nI 8)), (0, .int (nI k)), (1, .int (nI q)), (2, .ref fa), (3, .ref aa), (4, .ref da)] rfl (by decide) dL_at4_14 ?_
    refine v_aload_n C 4 rfl dL_at4_16 rfl ?_
    refine v_iconst (v := 4) C dL_at4_17 (by decide) ?_
    refine v_iload_n C 2 rfl dL_at4_18 rfl ?_
    refine v_imul C dL_at4_19 (v_eqi (nI_kml k 4 (by decide)) ?_)
    refine v_iconst (v := 2) C dL_at4_20 (by decide) ?_
    refine v_iadd C dL_at4_21 (v_eqi (nI_adk (4 * k) 2 (by decide)) ?_)
    refine v_iald C hF (vpin (show 4 * k + 2 < 60 by omega) (by decide)) dL_at4_22 (v_eqi (y := nI (F (4 * k + 2))) (congrArg (fun j => nI (F j)) (nI_clamp (show 4 * k + 2 < 2 ^ 31 by omega))) ?_)
    refine v_istore C [(7, .int (nI (F (4 * k + 2)))), (6, .int (nI (F (4 * k + 1)))), (5, .int (nI 8)), (0, .int (nI k)), (1, .int (nI q)), (2, .ref fa), (3, .ref aa), (4, .ref da)] rfl (by decide) dL_at4_23 ?_
    refine v_iload C 2 rfl dL_at4_25 ?_
    refine v_iconst (v := 4) C dL_at4_27 (by decide) ?_
    refine v_icmp_eq (tgt := 37) C dL_at4_28 (by decide) (fun c56 => absurd c56 (by decide)) (fun c56 => ?_)
    refine v_iload C 2 rfl dL_at4_31 ?_
    refine v_iconst (v := 5) C dL_at4_33 (by decide) ?_
    refine v_icmp_ne (tgt := 45) C dL_at4_34 (by decide) (fun c57 => ?_) (fun c57 => absurd c57 (by decide))
    refine v_iload C 2 rfl dL_at4_45 ?_
    refine v_bipush (v := 6) C dL_at4_47 (by decide) ?_
    refine v_icmp_ne (tgt := 69) C dL_at4_49 (by decide) (fun c58 => ?_) (fun c58 => absurd c58 (by decide))
    refine v_iload C 1 rfl dL_at4_69 ?_
    refine v_iload_n C 4 rfl dL_at4_71 rfl ?_
    refine v_aload_n C 5 rfl dL_at4_72 rfl ?_
    refine v_aload_n C 6 rfl dL_at4_73 rfl ?_
    refine v_aload C 7 rfl dL_at4_74 ?_
    refine v_callS (rest := []) C (c_L_at3 l hl G fa aa da (F (4 * k + 1)) q M F A D T lv s h hw he hF hA hD (show F (4 * k + 1) < M by omega) (show lv (F (4 * k + 1)) ≤ 3 by omega) (by omega)) S_L_61 rfl rfl (Nat.le_of_ble_eq_true rfl) ⟨Nat.le_of_ble_eq_true rfl, Nat.le_of_ble_eq_true rfl⟩ ⟨Nat.le_of_ble_eq_true rfl, Nat.le_of_ble_eq_true rfl⟩ dL_at4_76 (fun l59 h59 q59 => ?_)
    obtain ⟨e59, rfl⟩ := q59; subst e59
    refine v_lstore C [(8, .long (rowOf (oAL s) (oV s) (T (F (4 * k + 1))) q)), (7, .int (nI (F (4 * k + 2)))), (6, .int (nI (F (4 * k + 1)))), (5, .int (nI 8)), (0, .int (nI k)), (1, .int (nI q)), (2, .ref fa), (3, .ref aa), (4, .ref da)] rfl (by decide) dL_at4_79 ?_
    refine v_iload C 3 rfl dL_at4_81 ?_
    refine v_bipush (v := 7) C dL_at4_83 (by decide) ?_
    refine v_icmp_ne (tgt := 101) C dL_at4_85 (by decide) (fun c60 => ?_) (fun c60 => absurd c60 (by decide))
    refine v_iload C 3 rfl dL_at4_101 ?_
    refine v_bipush (v := 8) C dL_at4_103 (by decide) ?_
    refine v_icmp_ne (tgt := 150) C dL_at4_105 (by decide) (fun c61 => absurd c61 (by decide)) (fun c61 => ?_)
    refine v_iconst (v := 1) C dL_at4_108 (by decide) ?_
    refine v_istore C [(10, .int 1), (8, .long (rowOf (oAL s) (oV s) (T (F (4 * k + 1))) q)), (7, .int (nI (F (4 * k + 2)))), (6, .int (nI (F (4 * k + 1)))), (5, .int (nI 8)), (0, .int (nI k)), (1, .int (nI q)), (2, .ref fa), (3, .ref aa), (4, .ref da)] rfl (by decide) dL_at4_109 ?_
    have L62 : ∀ (d : Nat) (b : Nat) (w : Int64), (1 ≤ b) → (b ≤ 4) → (w = syr (rowOf (oAL s) (oV s) (T (F (4 * k + 1)))) q b) → (4 < b + d) → V zp l ze (rmm 15 0 0) zs zm zargs zbelow zmeth zc G 11 Q h (0 + 0) (0 + 0) 111 [(10, .int (nI b)), (8, .long w), (0, .int (nI k)), (1, .int (nI q)), (2, .ref fa), (3, .ref aa), (4, .ref da), (5, .int (nI 8)), (6, .int (nI (F (4 * k + 1)))), (7, .int (nI (F (4 * k + 2))))] [] := by
      intro d
      induction d with
      | zero =>
        intro b w hb1 hb4 hwb hd
        exact absurd hd (by omega)
      | succ d ih62 =>
        intro b w hb1 hb4 hwb hd
        refine v_iload C 0 rfl dL_at4_111 ?_
        refine v_iconst (v := 4) C dL_at4_113 (by decide) ?_
        refine v_icmp_ge (tgt := 147) C dL_at4_114 (by decide) (fun c63 => ?_) (fun c63 => ?_)
        · have c63 := (nk_ge (a := b) 4 (by decide) (by omega) (by decide)).mp c63
          refine v_lload C 1 rfl dL_at4_147 ?_
          exact v_lret C hQ hr (Nat.le_of_ble_eq_true rfl) (Nat.le_of_ble_eq_true rfl) dL_at4_149 ⟨by rw [fT, row_year (he.w6 hw (k := F (4 * k + 1)) (by omega))]; exact hwb.trans (syr_stop_or (by omega)).symm, rfl⟩
        · have c63 := (nk_ge_f (a := b) 4 (by decide) (by omega) (by decide)).mp c63
          refine v_iload C 0 rfl dL_at4_117 ?_
          refine v_iload_n C 3 rfl dL_at4_119 rfl ?_
          refine v_icmp_gt (tgt := 147) C dL_at4_120 (by decide) (fun c64 => ?_) (fun c64 => ?_)
          · have c64 := (nn_gt (a := b) (b := q) (by omega) (by omega)).mp c64
            refine v_lload C 1 rfl dL_at4_147 ?_
            exact v_lret C hQ hr (Nat.le_of_ble_eq_true rfl) (Nat.le_of_ble_eq_true rfl) dL_at4_149 ⟨by rw [fT, row_year (he.w6 hw (k := F (4 * k + 1)) (by omega))]; exact hwb.trans (syr_stop_or (by omega)).symm, rfl⟩
          · have c64 := (nn_gt_f (a := b) (b := q) (by omega) (by omega)).mp c64
            refine v_lload C 1 rfl dL_at4_123 ?_
            refine v_iload C 8 rfl dL_at4_125 ?_
            refine v_iload_n C 3 rfl dL_at4_127 rfl ?_
            refine v_iload C 0 rfl dL_at4_128 ?_
            refine v_isub C dL_at4_130 (v_eqi (pk_sub (a := q) (b := b) (by omega)) ?_)
            refine v_aload_n C 4 rfl dL_at4_131 rfl ?_
            refine v_aload_n C 5 rfl dL_at4_132 rfl ?_
            refine v_aload C 6 rfl dL_at4_133 ?_
            refine v_callS (rest := [.long w]) C (c_L_at3 l hl G fa aa da (F (4 * k + 1)) (q - b) M F A D T lv s h hw he hF hA hD (show F (4 * k + 1) < M by omega) (show lv (F (4 * k + 1)) ≤ 3 by omega) (by omega)) S_L_61 rfl rfl (Nat.le_of_ble_eq_true rfl) ⟨Nat.le_of_ble_eq_true rfl, Nat.le_of_ble_eq_true rfl⟩ ⟨Nat.le_of_ble_eq_true rfl, Nat.le_of_ble_eq_true rfl⟩ dL_at4_135 (fun l66 h66 q66 => ?_)
            obtain ⟨e66, rfl⟩ := q66; subst e66
            refine v_ladd C dL_at4_138 (v_eql (y := (syr (rowOf (oAL s) (oV s) (T (F (4 * k + 1)))) q (b + 1))) ((congrArg (· + _) hwb).trans (syr_s (b := b) (by omega)).symm) ?_)
            refine v_lstore C [(8, .long (syr (rowOf (oAL s) (oV s) (T (F (4 * k + 1)))) q (b + 1))), (10, .int (nI b)), (0, .int (nI k)), (1, .int (nI q)), (2, .ref fa), (3, .ref aa), (4, .ref da), (5, .int (nI 8)), (6, .int (nI (F (4 * k + 1)))), (7, .int (nI (F (4 * k + 2))))] rfl (by decide) dL_at4_139 ?_
            refine v_iinc C 1 [(10, .int (nI (b + 1))), (8, .long (syr (rowOf (oAL s) (oV s) (T (F (4 * k + 1)))) q (b + 1))), (0, .int (nI k)), (1, .int (nI q)), (2, .ref fa), (3, .ref aa), (4, .ref da), (5, .int (nI 8)), (6, .int (nI (F (4 * k + 1)))), (7, .int (nI (F (4 * k + 2))))] rfl (nI_inc b 1 (by decide)) rfl (by decide) dL_at4_141 ?_
            refine v_goto (tgt := 111) C dL_at4_144 (by decide) ?_
            refine v_lvp [0, 1, 2, 3, 4, 5, 6, 7, 8, 9] rfl ?_
            exact ih62 (b + 1) _ (by omega) (by omega) rfl (by omega)
    refine v_lvp [0, 1, 5, 6, 7, 8, 9, 4, 3, 2] rfl ?_
    exact L62 5 1 _ (by omega) (by omega) (show _ = syr (rowOf (oAL s) (oV s) (T (F (4 * k + 1)))) q 0 + rowOf (oAL s) (oV s) (T (F (4 * k + 1))) (q - 0) from (Int64.zero_add _).symm) (by omega)
set_option maxHeartbeats 4000000 in
set_option maxRecDepth 100000 in
theorem c_L_at5 (l : Launch) (hl : l.stackTraces = false) (G : zG) (fa aa da k q M : Nat) (F : Nat → Nat) (A D : Nat → Int32) (T : Nat → List Tok) (lv : Nat → Nat) (s : ZS) (h : zH) (hw : WFs s) (he : EV s F A D T lv M) (hF : iC G h fa 60 (fN F)) (hA : iC G h aa 60 A) (hD : iC G h da 60 D) (hk : k < M) (hv : lv k ≤ 5) (hq : q < 9) : zMet eL l yL_at5 cL_at5 11 (some .long) 16 0 0 G [.int (nI k), .int (nI q), .ref fa, .ref aa, .ref da] h (fun r h2 => r = rowOf (oAL s) (oV s) (T k) q ∧ h = h2) := by
  refine con_of hl RL rfl (by decide +kernel) [(0, .int (nI k)), (1, .int (nI q)), (2, .ref fa), (3, .ref aa), (4, .ref da)] rfl (Nat.le_of_ble_eq_true rfl) ?_
  intro zp ze zs zm zargs zbelow zmeth zc C hr hin Q hQ
  have hM := he.1
  have hN6 := he.2.1
  obtain ⟨l1, l6, l3, hFE⟩ := he.2.2.1 k hk
  rcases hFE with ⟨f0, f1, fT, fl⟩ | ⟨f0, f1, fT, fl⟩ | ⟨f0, f1, fT, fl⟩ | ⟨f0, f1, f2, fT, fl⟩ | ⟨f0, f1, f2, fT, fl⟩ | ⟨f0, f1, fT, fl⟩
  · refine v_aload_n C 2 rfl dL_at5_0 rfl ?_
    refine v_iconst (v := 4) C dL_at5_1 (by decide) ?_
    refine v_iload_n C 0 rfl dL_at5_2 rfl ?_
    refine v_imul C dL_at5_3 (v_eqi (nI_kml k 4 (by decide)) ?_)
    refine v_iald C hF (vpin (show 4 * k < 60 by omega) (by decide)) dL_at5_4 (v_eqi (y := nI 4) ((congrArg (fun j => nI (F j)) (nI_clamp (show 4 * k < 2 ^ 31 by omega))).trans (congrArg nI f0)) ?_)
    refine v_istore C [(5, .int (nI 4)), (0, .int (nI k)), (1, .int (nI q)), (2, .ref fa), (3, .ref aa), (4, .ref da)] rfl (by decide) dL_at5_5 ?_
    refine v_aload_n C 3 rfl dL_at5_7 rfl ?_
    refine v_iconst (v := 4) C dL_at5_8 (by decide) ?_
    refine v_iload_n C 1 rfl dL_at5_9 rfl ?_
    refine v_imul C dL_at5_10 (v_eqi (nI_kml k 4 (by decide)) ?_)
    refine v_iconst (v := 1) C dL_at5_11 (by decide) ?_
    refine v_iadd C dL_at5_12 (v_eqi (nI_adk (4 * k) 1 (by decide)) ?_)
    refine v_iald C hF (vpin (show 4 * k + 1 < 60 by omega) (by decide)) dL_at5_13 (v_eqi (y := nI (F (4 * k + 1))) (congrArg (fun j => nI (F j)) (nI_clamp (show 4 * k + 1 < 2 ^ 31 by omega))) ?_)
    refine v_istore C [(6, .int (nI (F (4 * k + 1)))), (5, .int (nI 4)), (0, .int (nI k)), (1, .int (nI q)), (2, .ref fa), (3, .ref aa), (4, .ref da)] rfl (by decide) dL_at5_14 ?_
    refine v_aload_n C 4 rfl dL_at5_16 rfl ?_
    refine v_iconst (v := 4) C dL_at5_17 (by decide) ?_
    refine v_iload_n C 2 rfl dL_at5_18 rfl ?_
    refine v_imul C dL_at5_19 (v_eqi (nI_kml k 4 (by decide)) ?_)
    refine v_iconst (v := 2) C dL_at5_20 (by decide) ?_
    refine v_iadd C dL_at5_21 (v_eqi (nI_adk (4 * k) 2 (by decide)) ?_)
    refine v_iald C hF (vpin (show 4 * k + 2 < 60 by omega) (by decide)) dL_at5_22 (v_eqi (y := nI (F (4 * k + 2))) (congrArg (fun j => nI (F j)) (nI_clamp (show 4 * k + 2 < 2 ^ 31 by omega))) ?_)
    refine v_istore C [(7, .int (nI (F (4 * k + 2)))), (6, .int (nI (F (4 * k + 1)))), (5, .int (nI 4)), (0, .int (nI k)), (1, .int (nI q)), (2, .ref fa), (3, .ref aa), (4, .ref da)] rfl (by decide) dL_at5_23 ?_
    refine v_iload C 2 rfl dL_at5_25 ?_
    refine v_iconst (v := 4) C dL_at5_27 (by decide) ?_
    refine v_icmp_eq (tgt := 37) C dL_at5_28 (by decide) (fun c6 => ?_) (fun c6 => absurd c6 (by decide))
    refine v_iload_n C 3 rfl dL_at5_37 rfl ?_
    refine v_iload_n C 4 rfl dL_at5_38 rfl ?_
    refine v_aload_n C 5 rfl dL_at5_39 rfl ?_
    refine v_aload_n C 6 rfl dL_at5_40 rfl ?_
    refine v_callS (rest := []) C (c_L_at1 l hl G fa aa da k q M F A D T lv s h hw he hF hA hk (by omega) hq) S_L_22 rfl rfl (Nat.le_of_ble_eq_true rfl) ⟨Nat.le_of_ble_eq_true rfl, Nat.le_of_ble_eq_true rfl⟩ ⟨Nat.le_of_ble_eq_true rfl, Nat.le_of_ble_eq_true rfl⟩ dL_at5_41 (fun l7 h7 q7 => ?_)
    obtain ⟨e7, rfl⟩ := q7; subst e7
    exact v_lret C hQ hr (Nat.le_of_ble_eq_true rfl) (Nat.le_of_ble_eq_true rfl) dL_at5_44 ⟨rfl, rfl⟩
  · refine v_aload_n C 2 rfl dL_at5_0 rfl ?_
    refine v_iconst (v := 4) C dL_at5_1 (by decide) ?_
    refine v_iload_n C 0 rfl dL_at5_2 rfl ?_
    refine v_imul C dL_at5_3 (v_eqi (nI_kml k 4 (by decide)) ?_)
    refine v_iald C hF (vpin (show 4 * k < 60 by omega) (by decide)) dL_at5_4 (v_eqi (y := nI 5) ((congrArg (fun j => nI (F j)) (nI_clamp (show 4 * k < 2 ^ 31 by omega))).trans (congrArg nI f0)) ?_)
    refine v_istore C [(5, .int (nI 5)), (0, .int (nI k)), (1, .int (nI q)), (2, .ref fa), (3, .ref aa), (4, .ref da)] rfl (by decide) dL_at5_5 ?_
    refine v_aload_n C 3 rfl dL_at5_7 rfl ?_
    refine v_iconst (v := 4) C dL_at5_8 (by decide) ?_
    refine v_iload_n C 1 rfl dL_at5_9 rfl ?_
    refine v_imul C dL_at5_10 (v_eqi (nI_kml k 4 (by decide)) ?_)
    refine v_iconst (v := 1) C dL_at5_11 (by decide) ?_
    refine v_iadd C dL_at5_12 (v_eqi (nI_adk (4 * k) 1 (by decide)) ?_)
    refine v_iald C hF (vpin (show 4 * k + 1 < 60 by omega) (by decide)) dL_at5_13 (v_eqi (y := nI (F (4 * k + 1))) (congrArg (fun j => nI (F j)) (nI_clamp (show 4 * k + 1 < 2 ^ 31 by omega))) ?_)
    refine v_istore C [(6, .int (nI (F (4 * k + 1)))), (5, .int (nI 5)), (0, .int (nI k)), (1, .int (nI q)), (2, .ref fa), (3, .ref aa), (4, .ref da)] rfl (by decide) dL_at5_14 ?_
    refine v_aload_n C 4 rfl dL_at5_16 rfl ?_
    refine v_iconst (v := 4) C dL_at5_17 (by decide) ?_
    refine v_iload_n C 2 rfl dL_at5_18 rfl ?_
    refine v_imul C dL_at5_19 (v_eqi (nI_kml k 4 (by decide)) ?_)
    refine v_iconst (v := 2) C dL_at5_20 (by decide) ?_
    refine v_iadd C dL_at5_21 (v_eqi (nI_adk (4 * k) 2 (by decide)) ?_)
    refine v_iald C hF (vpin (show 4 * k + 2 < 60 by omega) (by decide)) dL_at5_22 (v_eqi (y := nI (F (4 * k + 2))) (congrArg (fun j => nI (F j)) (nI_clamp (show 4 * k + 2 < 2 ^ 31 by omega))) ?_)
    refine v_istore C [(7, .int (nI (F (4 * k + 2)))), (6, .int (nI (F (4 * k + 1)))), (5, .int (nI 5)), (0, .int (nI k)), (1, .int (nI q)), (2, .ref fa), (3, .ref aa), (4, .ref da)] rfl (by decide) dL_at5_23 ?_
    refine v_iload C 2 rfl dL_at5_25 ?_
    refine v_iconst (v := 4) C dL_at5_27 (by decide) ?_
    refine v_icmp_eq (tgt := 37) C dL_at5_28 (by decide) (fun c13 => absurd c13 (by decide)) (fun c13 => ?_)
    refine v_iload C 2 rfl dL_at5_31 ?_
    refine v_iconst (v := 5) C dL_at5_33 (by decide) ?_
    refine v_icmp_ne (tgt := 45) C dL_at5_34 (by decide) (fun c14 => absurd c14 (by decide)) (fun c14 => ?_)
    refine v_iload_n C 3 rfl dL_at5_37 rfl ?_
    refine v_iload_n C 4 rfl dL_at5_38 rfl ?_
    refine v_aload_n C 5 rfl dL_at5_39 rfl ?_
    refine v_aload_n C 6 rfl dL_at5_40 rfl ?_
    refine v_callS (rest := []) C (c_L_at1 l hl G fa aa da k q M F A D T lv s h hw he hF hA hk (by omega) hq) S_L_22 rfl rfl (Nat.le_of_ble_eq_true rfl) ⟨Nat.le_of_ble_eq_true rfl, Nat.le_of_ble_eq_true rfl⟩ ⟨Nat.le_of_ble_eq_true rfl, Nat.le_of_ble_eq_true rfl⟩ dL_at5_41 (fun l15 h15 q15 => ?_)
    obtain ⟨e15, rfl⟩ := q15; subst e15
    exact v_lret C hQ hr (Nat.le_of_ble_eq_true rfl) (Nat.le_of_ble_eq_true rfl) dL_at5_44 ⟨rfl, rfl⟩
  · refine v_aload_n C 2 rfl dL_at5_0 rfl ?_
    refine v_iconst (v := 4) C dL_at5_1 (by decide) ?_
    refine v_iload_n C 0 rfl dL_at5_2 rfl ?_
    refine v_imul C dL_at5_3 (v_eqi (nI_kml k 4 (by decide)) ?_)
    refine v_iald C hF (vpin (show 4 * k < 60 by omega) (by decide)) dL_at5_4 (v_eqi (y := nI 6) ((congrArg (fun j => nI (F j)) (nI_clamp (show 4 * k < 2 ^ 31 by omega))).trans (congrArg nI f0)) ?_)
    refine v_istore C [(5, .int (nI 6)), (0, .int (nI k)), (1, .int (nI q)), (2, .ref fa), (3, .ref aa), (4, .ref da)] rfl (by decide) dL_at5_5 ?_
    refine v_aload_n C 3 rfl dL_at5_7 rfl ?_
    refine v_iconst (v := 4) C dL_at5_8 (by decide) ?_
    refine v_iload_n C 1 rfl dL_at5_9 rfl ?_
    refine v_imul C dL_at5_10 (v_eqi (nI_kml k 4 (by decide)) ?_)
    refine v_iconst (v := 1) C dL_at5_11 (by decide) ?_
    refine v_iadd C dL_at5_12 (v_eqi (nI_adk (4 * k) 1 (by decide)) ?_)
    refine v_iald C hF (vpin (show 4 * k + 1 < 60 by omega) (by decide)) dL_at5_13 (v_eqi (y := nI (F (4 * k + 1))) (congrArg (fun j => nI (F j)) (nI_clamp (show 4 * k + 1 < 2 ^ 31 by omega))) ?_)
    refine v_istore C [(6, .int (nI (F (4 * k + 1)))), (5, .int (nI 6)), (0, .int (nI k)), (1, .int (nI q)), (2, .ref fa), (3, .ref aa), (4, .ref da)] rfl (by decide) dL_at5_14 ?_
    refine v_aload_n C 4 rfl dL_at5_16 rfl ?_
    refine v_iconst (v := 4) C dL_at5_17 (by decide) ?_
    refine v_iload_n C 2 rfl dL_at5_18 rfl ?_
    refine v_imul C dL_at5_19 (v_eqi (nI_kml k 4 (by decide)) ?_)
    refine v_iconst (v := 2) C dL_at5_20 (by decide) ?_
    refine v_iadd C dL_at5_21 (v_eqi (nI_adk (4 * k) 2 (by decide)) ?_)
    refine v_iald C hF (vpin (show 4 * k + 2 < 60 by omega) (by decide)) dL_at5_22 (v_eqi (y := nI (F (4 * k + 2))) (congrArg (fun j => nI (F j)) (nI_clamp (show 4 * k + 2 < 2 ^ 31 by omega))) ?_)
    refine v_istore C [(7, .int (nI (F (4 * k + 2)))), (6, .int (nI (F (4 * k + 1)))), (5, .int (nI 6)), (0, .int (nI k)), (1, .int (nI q)), (2, .ref fa), (3, .ref aa), (4, .ref da)] rfl (by decide) dL_at5_23 ?_
    refine v_iload C 2 rfl dL_at5_25 ?_
    refine v_iconst (v := 4) C dL_at5_27 (by decide) ?_
    refine v_icmp_eq (tgt := 37) C dL_at5_28 (by decide) (fun c21 => absurd c21 (by decide)) (fun c21 => ?_)
    refine v_iload C 2 rfl dL_at5_31 ?_
    refine v_iconst (v := 5) C dL_at5_33 (by decide) ?_
    refine v_icmp_ne (tgt := 45) C dL_at5_34 (by decide) (fun c22 => ?_) (fun c22 => absurd c22 (by decide))
    refine v_iload C 2 rfl dL_at5_45 ?_
    refine v_bipush (v := 6) C dL_at5_47 (by decide) ?_
    refine v_icmp_ne (tgt := 69) C dL_at5_49 (by decide) (fun c23 => absurd c23 (by decide)) (fun c23 => ?_)
    refine v_iload C 1 rfl dL_at5_52 ?_
    refine v_iload_n C 4 rfl dL_at5_54 rfl ?_
    refine v_aload C 7 rfl dL_at5_55 ?_
    obtain ⟨k2, hk2, hh2, hv2, -, ho2⟩ := he.held hw f1 (q := q) (by omega)
    refine v_callS (rest := []) C (c_L_holds l hl G (F (4 * k + 1)) q da D h hD (by omega) (by omega) (EV.d0 he hw f1)) S_L_26 rfl rfl (Nat.le_of_ble_eq_true rfl) ⟨Nat.le_of_ble_eq_true rfl, Nat.le_of_ble_eq_true rfl⟩ ⟨Nat.le_of_ble_eq_true rfl, Nat.le_of_ble_eq_true rfl⟩ dL_at5_57 (fun i24 h24 q24 => ?_)
    obtain ⟨e24, rfl⟩ := q24; rw [hh2] at e24; subst e24
    refine v_iload_n C 4 rfl dL_at5_60 rfl ?_
    refine v_aload_n C 5 rfl dL_at5_61 rfl ?_
    refine v_aload_n C 6 rfl dL_at5_62 rfl ?_
    refine v_aload C 7 rfl dL_at5_63 ?_
    refine v_callS (rest := []) C (c_L_at4 l hl G fa aa da k2 q M F A D T lv s h hw he hF hA hD hk2 (by omega) hq) S_L_70 rfl rfl (Nat.le_of_ble_eq_true rfl) ⟨Nat.le_of_ble_eq_true rfl, Nat.le_of_ble_eq_true rfl⟩ ⟨Nat.le_of_ble_eq_true rfl, Nat.le_of_ble_eq_true rfl⟩ dL_at5_65 (fun l25 h25 q25 => ?_)
    obtain ⟨e25, rfl⟩ := q25; subst e25
    exact v_lret C hQ hr (Nat.le_of_ble_eq_true rfl) (Nat.le_of_ble_eq_true rfl) dL_at5_68 ⟨by rw [fT]; exact ho2.symm, rfl⟩
  · refine v_aload_n C 2 rfl dL_at5_0 rfl ?_
    refine v_iconst (v := 4) C dL_at5_1 (by decide) ?_
    refine v_iload_n C 0 rfl dL_at5_2 rfl ?_
    refine v_imul C dL_at5_3 (v_eqi (nI_kml k 4 (by decide)) ?_)
    refine v_iald C hF (vpin (show 4 * k < 60 by omega) (by decide)) dL_at5_4 (v_eqi (y := nI (F (4 * k))) ((congrArg (fun j => nI (F j)) (nI_clamp (show 4 * k < 2 ^ 31 by omega))).trans (congrArg nI rfl)) ?_)
    refine v_istore C [(5, .int (nI (F (4 * k)))), (0, .int (nI k)), (1, .int (nI q)), (2, .ref fa), (3, .ref aa), (4, .ref da)] rfl (by decide) dL_at5_5 ?_
    refine v_aload_n C 3 rfl dL_at5_7 rfl ?_
    refine v_iconst (v := 4) C dL_at5_8 (by decide) ?_
    refine v_iload_n C 1 rfl dL_at5_9 rfl ?_
    refine v_imul C dL_at5_10 (v_eqi (nI_kml k 4 (by decide)) ?_)
    refine v_iconst (v := 1) C dL_at5_11 (by decide) ?_
    refine v_iadd C dL_at5_12 (v_eqi (nI_adk (4 * k) 1 (by decide)) ?_)
    refine v_iald C hF (vpin (show 4 * k + 1 < 60 by omega) (by decide)) dL_at5_13 (v_eqi (y := nI (F (4 * k + 1))) (congrArg (fun j => nI (F j)) (nI_clamp (show 4 * k + 1 < 2 ^ 31 by omega))) ?_)
    refine v_istore C [(6, .int (nI (F (4 * k + 1)))), (5, .int (nI (F (4 * k)))), (0, .int (nI k)), (1, .int (nI q)), (2, .ref fa), (3, .ref aa), (4, .ref da)] rfl (by decide) dL_at5_14 ?_
    refine v_aload_n C 4 rfl dL_at5_16 rfl ?_
    refine v_iconst (v := 4) C dL_at5_17 (by decide) ?_
    refine v_iload_n C 2 rfl dL_at5_18 rfl ?_
    refine v_imul C dL_at5_19 (v_eqi (nI_kml k 4 (by decide)) ?_)
    refine v_iconst (v := 2) C dL_at5_20 (by decide) ?_
    refine v_iadd C dL_at5_21 (v_eqi (nI_adk (4 * k) 2 (by decide)) ?_)
    refine v_iald C hF (vpin (show 4 * k + 2 < 60 by omega) (by decide)) dL_at5_22 (v_eqi (y := nI (F (4 * k + 2))) (congrArg (fun j => nI (F j)) (nI_clamp (show 4 * k + 2 < 2 ^ 31 by omega))) ?_)
    refine v_istore C [(7, .int (nI (F (4 * k + 2)))), (6, .int (nI (F (4 * k + 1)))), (5, .int (nI (F (4 * k)))), (0, .int (nI k)), (1, .int (nI q)), (2, .ref fa), (3, .ref aa), (4, .ref da)] rfl (by decide) dL_at5_23 ?_
    refine v_iload C 2 rfl dL_at5_25 ?_
    refine v_iconst (v := 4) C dL_at5_27 (by decide) ?_
    refine v_icmp_eq (tgt := 37) C dL_at5_28 (by decide) (fun c31 => absurd ((nk_eq (a := F (4 * k)) 4 (by decide) (by omega) (by decide)).mp c31) (by omega)) (fun c31 => ?_)
    have c31 := (nk_eq_f (a := (F (4 * k))) 4 (by decide) (by omega) (by decide)).mp c31
    refine v_iload C 2 rfl dL_at5_31 ?_
    refine v_iconst (v := 5) C dL_at5_33 (by decide) ?_
    refine v_icmp_ne (tgt := 45) C dL_at5_34 (by decide) (fun c32 => ?_) (fun c32 => absurd ((nk_ne_f (a := F (4 * k)) 5 (by decide) (by omega) (by decide)).mp c32) (by omega))
    have c32 := (nk_ne (a := (F (4 * k))) 5 (by decide) (by omega) (by decide)).mp c32
    refine v_iload C 2 rfl dL_at5_45 ?_
    refine v_bipush (v := 6) C dL_at5_47 (by decide) ?_
    refine v_icmp_ne (tgt := 69) C dL_at5_49 (by decide) (fun c33 => ?_) (fun c33 => absurd ((nk_ne_f (a := F (4 * k)) 6 (by decide) (by omega) (by decide)).mp c33) (by omega))
    have c33 := (nk_ne (a := (F (4 * k))) 6 (by decide) (by omega) (by decide)).mp c33
    refine v_iload C 1 rfl dL_at5_69 ?_
    refine v_iload_n C 4 rfl dL_at5_71 rfl ?_
    refine v_aload_n C 5 rfl dL_at5_72 rfl ?_
    refine v_aload_n C 6 rfl dL_at5_73 rfl ?_
    refine v_aload C 7 rfl dL_at5_74 ?_
    refine v_callS (rest := []) C (c_L_at4 l hl G fa aa da (F (4 * k + 1)) q M F A D T lv s h hw he hF hA hD (show F (4 * k + 1) < M by omega) (show lv (F (4 * k + 1)) ≤ 4 by omega) (by omega)) S_L_70 rfl rfl (Nat.le_of_ble_eq_true rfl) ⟨Nat.le_of_ble_eq_true rfl, Nat.le_of_ble_eq_true rfl⟩ ⟨Nat.le_of_ble_eq_true rfl, Nat.le_of_ble_eq_true rfl⟩ dL_at5_76 (fun l34 h34 q34 => ?_)
    obtain ⟨e34, rfl⟩ := q34; subst e34
    refine v_lstore C [(8, .long (rowOf (oAL s) (oV s) (T (F (4 * k + 1))) q)), (7, .int (nI (F (4 * k + 2)))), (6, .int (nI (F (4 * k + 1)))), (5, .int (nI (F (4 * k)))), (0, .int (nI k)), (1, .int (nI q)), (2, .ref fa), (3, .ref aa), (4, .ref da)] rfl (by decide) dL_at5_79 ?_
    refine v_iload C 3 rfl dL_at5_81 ?_
    refine v_bipush (v := 7) C dL_at5_83 (by decide) ?_
    refine v_icmp_ne (tgt := 101) C dL_at5_85 (by decide) (fun c35 => ?_) (fun c35 => absurd ((nk_ne_f (a := F (4 * k)) 7 (by decide) (by omega) (by decide)).mp c35) (by omega))
    have c35 := (nk_ne (a := (F (4 * k))) 7 (by decide) (by omega) (by decide)).mp c35
    refine v_iload C 3 rfl dL_at5_101 ?_
    refine v_bipush (v := 8) C dL_at5_103 (by decide) ?_
    refine v_icmp_ne (tgt := 150) C dL_at5_105 (by decide) (fun c36 => ?_) (fun c36 => absurd ((nk_ne_f (a := F (4 * k)) 8 (by decide) (by omega) (by decide)).mp c36) (by omega))
    have c36 := (nk_ne (a := (F (4 * k))) 8 (by decide) (by omega) (by decide)).mp c36
    refine v_iload C 3 rfl dL_at5_150 ?_
    refine v_lload C 0 rfl dL_at5_152 ?_
    refine v_iload C 1 rfl dL_at5_154 ?_
    refine v_iload_n C 5 rfl dL_at5_156 rfl ?_
    refine v_aload_n C 6 rfl dL_at5_157 rfl ?_
    refine v_aload_n C 7 rfl dL_at5_158 rfl ?_
    refine v_aload C 8 rfl dL_at5_159 ?_
    refine v_callS (rest := [.long (rowOf (oAL s) (oV s) (T (F (4 * k + 1))) q), .int (nI (F (4 * k)))]) C (c_L_at4 l hl G fa aa da (F (4 * k + 2)) q M F A D T lv s h hw he hF hA hD (show F (4 * k + 2) < M by omega) (show lv (F (4 * k + 2)) ≤ 4 by omega) (by omega)) S_L_70 rfl rfl (Nat.le_of_ble_eq_true rfl) ⟨Nat.le_of_ble_eq_true rfl, Nat.le_of_ble_eq_true rfl⟩ ⟨Nat.le_of_ble_eq_true rfl, Nat.le_of_ble_eq_true rfl⟩ dL_at5_161 (fun l37 h37 q37 => ?_)
    obtain ⟨e37, rfl⟩ := q37; subst e37
    refine v_callS (rest := []) C (c_L_join l hl G (F (4 * k)) (rowOf (oAL s) (oV s) (T (F (4 * k + 1))) q) (rowOf (oAL s) (oV s) (T (F (4 * k + 2))) q) h f0) S_L_36 rfl rfl (Nat.le_of_ble_eq_true rfl) ⟨Nat.le_of_ble_eq_true rfl, Nat.le_of_ble_eq_true rfl⟩ ⟨Nat.le_of_ble_eq_true rfl, Nat.le_of_ble_eq_true rfl⟩ dL_at5_164 (fun l38 h38 q38 => ?_)
    obtain ⟨e38, rfl⟩ := q38; subst e38
    exact v_lret C hQ hr (Nat.le_of_ble_eq_true rfl) (Nat.le_of_ble_eq_true rfl) dL_at5_167 ⟨by rw [fT, row_join (he.w6 hw (k := F (4 * k + 1)) (by omega)) (he.w6 hw (k := F (4 * k + 2)) (by omega)) f0], rfl⟩
  · refine v_aload_n C 2 rfl dL_at5_0 rfl ?_
    refine v_iconst (v := 4) C dL_at5_1 (by decide) ?_
    refine v_iload_n C 0 rfl dL_at5_2 rfl ?_
    refine v_imul C dL_at5_3 (v_eqi (nI_kml k 4 (by decide)) ?_)
    refine v_iald C hF (vpin (show 4 * k < 60 by omega) (by decide)) dL_at5_4 (v_eqi (y := nI 7) ((congrArg (fun j => nI (F j)) (nI_clamp (show 4 * k < 2 ^ 31 by omega))).trans (congrArg nI f0)) ?_)
    refine v_istore C [(5, .int (nI 7)), (0, .int (nI k)), (1, .int (nI q)), (2, .ref fa), (3, .ref aa), (4, .ref da)] rfl (by decide) dL_at5_5 ?_
    refine v_aload_n C 3 rfl dL_at5_7 rfl ?_
    refine v_iconst (v := 4) C dL_at5_8 (by decide) ?_
    refine v_iload_n C 1 rfl dL_at5_9 rfl ?_
    refine v_imul C dL_at5_10 (v_eqi (nI_kml k 4 (by decide)) ?_)
    refine v_iconst (v := 1) C dL_at5_11 (by decide) ?_
    refine v_iadd C dL_at5_12 (v_eqi (nI_adk (4 * k) 1 (by decide)) ?_)
    refine v_iald C hF (vpin (show 4 * k + 1 < 60 by omega) (by decide)) dL_at5_13 (v_eqi (y := nI (F (4 * k + 1))) (congrArg (fun j => nI (F j)) (nI_clamp (show 4 * k + 1 < 2 ^ 31 by omega))) ?_)
    refine v_istore C [(6, .int (nI (F (4 * k + 1)))), (5, .int (nI 7)), (0, .int (nI k)), (1, .int (nI q)), (2, .ref fa), (3, .ref aa), (4, .ref da)] rfl (by decide) dL_at5_14 ?_
    refine v_aload_n C 4 rfl dL_at5_16 rfl ?_
    refine v_iconst (v := 4) C dL_at5_17 (by decide) ?_
    refine v_iload_n C 2 rfl dL_at5_18 rfl ?_
    refine v_imul C dL_at5_19 (v_eqi (nI_kml k 4 (by decide)) ?_)
    refine v_iconst (v := 2) C dL_at5_20 (by decide) ?_
    refine v_iadd C dL_at5_21 (v_eqi (nI_adk (4 * k) 2 (by decide)) ?_)
    refine v_iald C hF (vpin (show 4 * k + 2 < 60 by omega) (by decide)) dL_at5_22 (v_eqi (y := nI (F (4 * k + 2))) (congrArg (fun j => nI (F j)) (nI_clamp (show 4 * k + 2 < 2 ^ 31 by omega))) ?_)
    refine v_istore C [(7, .int (nI (F (4 * k + 2)))), (6, .int (nI (F (4 * k + 1)))), (5, .int (nI 7)), (0, .int (nI k)), (1, .int (nI q)), (2, .ref fa), (3, .ref aa), (4, .ref da)] rfl (by decide) dL_at5_23 ?_
    refine v_iload C 2 rfl dL_at5_25 ?_
    refine v_iconst (v := 4) C dL_at5_27 (by decide) ?_
    refine v_icmp_eq (tgt := 37) C dL_at5_28 (by decide) (fun c44 => absurd c44 (by decide)) (fun c44 => ?_)
    refine v_iload C 2 rfl dL_at5_31 ?_
    refine v_iconst (v := 5) C dL_at5_33 (by decide) ?_
    refine v_icmp_ne (tgt := 45) C dL_at5_34 (by decide) (fun c45 => ?_) (fun c45 => absurd c45 (by decide))
    refine v_iload C 2 rfl dL_at5_45 ?_
    refine v_bipush (v := 6) C dL_at5_47 (by decide) ?_
    refine v_icmp_ne (tgt := 69) C dL_at5_49 (by decide) (fun c46 => ?_) (fun c46 => absurd c46 (by decide))
    refine v_iload C 1 rfl dL_at5_69 ?_
    refine v_iload_n C 4 rfl dL_at5_71 rfl ?_
    refine v_aload_n C 5 rfl dL_at5_72 rfl ?_
    refine v_aload_n C 6 rfl dL_at5_73 rfl ?_
    refine v_aload C 7 rfl dL_at5_74 ?_
    refine v_callS (rest := []) C (c_L_at4 l hl G fa aa da (F (4 * k + 1)) q M F A D T lv s h hw he hF hA hD (show F (4 * k + 1) < M by omega) (show lv (F (4 * k + 1)) ≤ 4 by omega) (by omega)) S_L_70 rfl rfl (Nat.le_of_ble_eq_true rfl) ⟨Nat.le_of_ble_eq_true rfl, Nat.le_of_ble_eq_true rfl⟩ ⟨Nat.le_of_ble_eq_true rfl, Nat.le_of_ble_eq_true rfl⟩ dL_at5_76 (fun l47 h47 q47 => ?_)
    obtain ⟨e47, rfl⟩ := q47; subst e47
    refine v_lstore C [(8, .long (rowOf (oAL s) (oV s) (T (F (4 * k + 1))) q)), (7, .int (nI (F (4 * k + 2)))), (6, .int (nI (F (4 * k + 1)))), (5, .int (nI 7)), (0, .int (nI k)), (1, .int (nI q)), (2, .ref fa), (3, .ref aa), (4, .ref da)] rfl (by decide) dL_at5_79 ?_
    refine v_iload C 3 rfl dL_at5_81 ?_
    refine v_bipush (v := 7) C dL_at5_83 (by decide) ?_
    refine v_icmp_ne (tgt := 101) C dL_at5_85 (by decide) (fun c48 => absurd c48 (by decide)) (fun c48 => ?_)
    refine v_lload C 0 rfl dL_at5_88 ?_
    refine v_iload C 1 rfl dL_at5_90 ?_
    refine v_i2l (v := lN64 (F (4 * k + 2))) C dL_at5_92 rfl ?_
    refine v_lmul C dL_at5_93 (v_eql (y := ((rowOf (oAL s) (oV s) (T (F (4 * k + 1))) q) * (lN64 (F (4 * k + 2))))) (rfl) ?_)
    refine v_ldc2 C KO_L_30 dL_at5_94 ?_
    refine v_callS (rest := []) C (c_L_down l hl G ((rowOf (oAL s) (oV s) (T (F (4 * k + 1))) q) * (lN64 (F (4 * k + 2)))) h) S_L_32 rfl rfl (Nat.le_of_ble_eq_true rfl) ⟨Nat.le_of_ble_eq_true rfl, Nat.le_of_ble_eq_true rfl⟩ ⟨Nat.le_of_ble_eq_true rfl, Nat.le_of_ble_eq_true rfl⟩ dL_at5_97 (fun l50 h50 q50 => ?_)
    obtain ⟨e50, rfl⟩ := q50; subst e50
    exact v_lret C hQ hr (Nat.le_of_ble_eq_true rfl) (Nat.le_of_ble_eq_true rfl) dL_at5_100 ⟨by rw [fT, row_share (he.w6 hw (k := F (4 * k + 1)) (by omega))], rfl⟩
  · refine v_aload_n C 2 rfl dL_at5_0 rfl ?_
    refine v_iconst (v := 4) C dL_at5_1 (by decide) ?_
    refine v_iload_n C 0 rfl dL_at5_2 rfl ?_
    refine v_imul C dL_at5_3 (v_eqi (nI_kml k 4 (by decide)) ?_)
    refine v_iald C hF (vpin (show 4 * k < 60 by omega) (by decide)) dL_at5_4 (v_eqi (y := nI 8) ((congrArg (fun j => nI (F j)) (nI_clamp (show 4 * k < 2 ^ 31 by omega))).trans (congrArg nI f0)) ?_)
    refine v_istore C [(5, .int (nI 8)), (0, .int (nI k)), (1, .int (nI q)), (2, .ref fa), (3, .ref aa), (4, .ref da)] rfl (by decide) dL_at5_5 ?_
    refine v_aload_n C 3 rfl dL_at5_7 rfl ?_
    refine v_iconst (v := 4) C dL_at5_8 (by decide) ?_
    refine v_iload_n C 1 rfl dL_at5_9 rfl ?_
    refine v_imul C dL_at5_10 (v_eqi (nI_kml k 4 (by decide)) ?_)
    refine v_iconst (v := 1) C dL_at5_11 (by decide) ?_
    refine v_iadd C dL_at5_12 (v_eqi (nI_adk (4 * k) 1 (by decide)) ?_)
    refine v_iald C hF (vpin (show 4 * k + 1 < 60 by omega) (by decide)) dL_at5_13 (v_eqi (y := nI (F (4 * k + 1))) (congrArg (fun j => nI (F j)) (nI_clamp (show 4 * k + 1 < 2 ^ 31 by omega))) ?_)
    refine v_istore C [(6, .int (nI (F (4 * k + 1)))), (5, .int (nI 8)), (0, .int (nI k)), (1, .int (nI q)), (2, .ref fa), (3, .ref aa), (4, .ref da)] rfl (by decide) dL_at5_14 ?_
    refine v_aload_n C 4 rfl dL_at5_16 rfl ?_
    refine v_iconst (v := 4) C dL_at5_17 (by decide) ?_
    refine v_iload_n C 2 rfl dL_at5_18 rfl ?_
    refine v_imul C dL_at5_19 (v_eqi (nI_kml k 4 (by decide)) ?_)
    refine v_iconst (v := 2) C dL_at5_20 (by decide) ?_
    refine v_iadd C dL_at5_21 (v_eqi (nI_adk (4 * k) 2 (by decide)) ?_)
    refine v_iald C hF (vpin (show 4 * k + 2 < 60 by omega) (by decide)) dL_at5_22 (v_eqi (y := nI (F (4 * k + 2))) (congrArg (fun j => nI (F j)) (nI_clamp (show 4 * k + 2 < 2 ^ 31 by omega))) ?_)
    refine v_istore C [(7, .int (nI (F (4 * k + 2)))), (6, .int (nI (F (4 * k + 1)))), (5, .int (nI 8)), (0, .int (nI k)), (1, .int (nI q)), (2, .ref fa), (3, .ref aa), (4, .ref da)] rfl (by decide) dL_at5_23 ?_
    refine v_iload C 2 rfl dL_at5_25 ?_
    refine v_iconst (v := 4) C dL_at5_27 (by decide) ?_
    refine v_icmp_eq (tgt := 37) C dL_at5_28 (by decide) (fun c56 => absurd c56 (by decide)) (fun c56 => ?_)
    refine v_iload C 2 rfl dL_at5_31 ?_
    refine v_iconst (v := 5) C dL_at5_33 (by decide) ?_
    refine v_icmp_ne (tgt := 45) C dL_at5_34 (by decide) (fun c57 => ?_) (fun c57 => absurd c57 (by decide))
    refine v_iload C 2 rfl dL_at5_45 ?_
    refine v_bipush (v := 6) C dL_at5_47 (by decide) ?_
    refine v_icmp_ne (tgt := 69) C dL_at5_49 (by decide) (fun c58 => ?_) (fun c58 => absurd c58 (by decide))
    refine v_iload C 1 rfl dL_at5_69 ?_
    refine v_iload_n C 4 rfl dL_at5_71 rfl ?_
    refine v_aload_n C 5 rfl dL_at5_72 rfl ?_
    refine v_aload_n C 6 rfl dL_at5_73 rfl ?_
    refine v_aload C 7 rfl dL_at5_74 ?_
    refine v_callS (rest := []) C (c_L_at4 l hl G fa aa da (F (4 * k + 1)) q M F A D T lv s h hw he hF hA hD (show F (4 * k + 1) < M by omega) (show lv (F (4 * k + 1)) ≤ 4 by omega) (by omega)) S_L_70 rfl rfl (Nat.le_of_ble_eq_true rfl) ⟨Nat.le_of_ble_eq_true rfl, Nat.le_of_ble_eq_true rfl⟩ ⟨Nat.le_of_ble_eq_true rfl, Nat.le_of_ble_eq_true rfl⟩ dL_at5_76 (fun l59 h59 q59 => ?_)
    obtain ⟨e59, rfl⟩ := q59; subst e59
    refine v_lstore C [(8, .long (rowOf (oAL s) (oV s) (T (F (4 * k + 1))) q)), (7, .int (nI (F (4 * k + 2)))), (6, .int (nI (F (4 * k + 1)))), (5, .int (nI 8)), (0, .int (nI k)), (1, .int (nI q)), (2, .ref fa), (3, .ref aa), (4, .ref da)] rfl (by decide) dL_at5_79 ?_
    refine v_iload C 3 rfl dL_at5_81 ?_
    refine v_bipush (v := 7) C dL_at5_83 (by decide) ?_
    refine v_icmp_ne (tgt := 101) C dL_at5_85 (by decide) (fun c60 => ?_) (fun c60 => absurd c60 (by decide))
    refine v_iload C 3 rfl dL_at5_101 ?_
    refine v_bipush (v := 8) C dL_at5_103 (by decide) ?_
    refine v_icmp_ne (tgt := 150) C dL_at5_105 (by decide) (fun c61 => absurd c61 (by decide)) (fun c61 => ?_)
    refine v_iconst (v := 1) C dL_at5_108 (by decide) ?_
    refine v_istore C [(10, .int 1), (8, .long (rowOf (oAL s) (oV s) (T (F (4 * k + 1))) q)), (7, .int (nI (F (4 * k + 2)))), (6, .int (nI (F (4 * k + 1)))), (5, .int (nI 8)), (0, .int (nI k)), (1, .int (nI q)), (2, .ref fa), (3, .ref aa), (4, .ref da)] rfl (by decide) dL_at5_109 ?_
    have L62 : ∀ (d : Nat) (b : Nat) (w : Int64), (1 ≤ b) → (b ≤ 4) → (w = syr (rowOf (oAL s) (oV s) (T (F (4 * k + 1)))) q b) → (4 < b + d) → V zp l ze (rmm 16 0 0) zs zm zargs zbelow zmeth zc G 11 Q h (0 + 0) (0 + 0) 111 [(10, .int (nI b)), (8, .long w), (0, .int (nI k)), (1, .int (nI q)), (2, .ref fa), (3, .ref aa), (4, .ref da), (5, .int (nI 8)), (6, .int (nI (F (4 * k + 1)))), (7, .int (nI (F (4 * k + 2))))] [] := by
      intro d
      induction d with
      | zero =>
        intro b w hb1 hb4 hwb hd
        exact absurd hd (by omega)
      | succ d ih62 =>
        intro b w hb1 hb4 hwb hd
        refine v_iload C 0 rfl dL_at5_111 ?_
        refine v_iconst (v := 4) C dL_at5_113 (by decide) ?_
        refine v_icmp_ge (tgt := 147) C dL_at5_114 (by decide) (fun c63 => ?_) (fun c63 => ?_)
        · have c63 := (nk_ge (a := b) 4 (by decide) (by omega) (by decide)).mp c63
          refine v_lload C 1 rfl dL_at5_147 ?_
          exact v_lret C hQ hr (Nat.le_of_ble_eq_true rfl) (Nat.le_of_ble_eq_true rfl) dL_at5_149 ⟨by rw [fT, row_year (he.w6 hw (k := F (4 * k + 1)) (by omega))]; exact hwb.trans (syr_stop_or (by omega)).symm, rfl⟩
        · have c63 := (nk_ge_f (a := b) 4 (by decide) (by omega) (by decide)).mp c63
          refine v_iload C 0 rfl dL_at5_117 ?_
          refine v_iload_n C 3 rfl dL_at5_119 rfl ?_
          refine v_icmp_gt (tgt := 147) C dL_at5_120 (by decide) (fun c64 => ?_) (fun c64 => ?_)
          · have c64 := (nn_gt (a := b) (b := q) (by omega) (by omega)).mp c64
            refine v_lload C 1 rfl dL_at5_147 ?_
            exact v_lret C hQ hr (Nat.le_of_ble_eq_true rfl) (Nat.le_of_ble_eq_true rfl) dL_at5_149 ⟨by rw [fT, row_year (he.w6 hw (k := F (4 * k + 1)) (by omega))]; exact hwb.trans (syr_stop_or (by omega)).symm, rfl⟩
          · have c64 := (nn_gt_f (a := b) (b := q) (by omega) (by omega)).mp c64
            refine v_lload C 1 rfl dL_at5_123 ?_
            refine v_iload C 8 rfl dL_at5_125 ?_
            refine v_iload_n C 3 rfl dL_at5_127 rfl ?_
            refine v_iload C 0 rfl dL_at5_128 ?_
            refine v_isub C dL_at5_130 (v_eqi (pk_sub (a := q) (b := b) (by omega)) ?_)
            refine v_aload_n C 4 rfl dL_at5_131 rfl ?_
            refine v_aload_n C 5 rfl dL_at5_132 rfl ?_
            refine v_aload C 6 rfl dL_at5_133 ?_
            refine v_callS (rest := [.long w]) C (c_L_at4 l hl G fa aa da (F (4 * k + 1)) (q - b) M F A D T lv s h hw he hF hA hD (show F (4 * k + 1) < M by omega) (show lv (F (4 * k + 1)) ≤ 4 by omega) (by omega)) S_L_70 rfl rfl (Nat.le_of_ble_eq_true rfl) ⟨Nat.le_of_ble_eq_true rfl, Nat.le_of_ble_eq_true rfl⟩ ⟨Nat.le_of_ble_eq_true rfl, Nat.le_of_ble_eq_true rfl⟩ dL_at5_135 (fun l66 h66 q66 => ?_)
            obtain ⟨e66, rfl⟩ := q66; subst e66
            refine v_ladd C dL_at5_138 (v_eql (y := (syr (rowOf (oAL s) (oV s) (T (F (4 * k + 1)))) q (b + 1))) ((congrArg (· + _) hwb).trans (syr_s (b := b) (by omega)).symm) ?_)
            refine v_lstore C [(8, .long (syr (rowOf (oAL s) (oV s) (T (F (4 * k + 1)))) q (b + 1))), (10, .int (nI b)), (0, .int (nI k)), (1, .int (nI q)), (2, .ref fa), (3, .ref aa), (4, .ref da), (5, .int (nI 8)), (6, .int (nI (F (4 * k + 1)))), (7, .int (nI (F (4 * k + 2))))] rfl (by decide) dL_at5_139 ?_
            refine v_iinc C 1 [(10, .int (nI (b + 1))), (8, .long (syr (rowOf (oAL s) (oV s) (T (F (4 * k + 1)))) q (b + 1))), (0, .int (nI k)), (1, .int (nI q)), (2, .ref fa), (3, .ref aa), (4, .ref da), (5, .int (nI 8)), (6, .int (nI (F (4 * k + 1)))), (7, .int (nI (F (4 * k + 2))))] rfl (nI_inc b 1 (by decide)) rfl (by decide) dL_at5_141 ?_
            refine v_goto (tgt := 111) C dL_at5_144 (by decide) ?_
            refine v_lvp [0, 1, 2, 3, 4, 5, 6, 7, 8, 9] rfl ?_
            exact ih62 (b + 1) _ (by omega) (by omega) rfl (by omega)
    refine v_lvp [0, 1, 5, 6, 7, 8, 9, 4, 3, 2] rfl ?_
    exact L62 5 1 _ (by omega) (by omega) (show _ = syr (rowOf (oAL s) (oV s) (T (F (4 * k + 1)))) q 0 + rowOf (oAL s) (oV s) (T (F (4 * k + 1))) (q - 0) from (Int64.zero_add _).symm) (by omega)
set_option maxHeartbeats 4000000 in
set_option maxRecDepth 100000 in
theorem c_L_at6 (l : Launch) (hl : l.stackTraces = false) (G : zG) (fa aa da k q M : Nat) (F : Nat → Nat) (A D : Nat → Int32) (T : Nat → List Tok) (lv : Nat → Nat) (s : ZS) (h : zH) (hw : WFs s) (he : EV s F A D T lv M) (hF : iC G h fa 60 (fN F)) (hA : iC G h aa 60 A) (hD : iC G h da 60 D) (hk : k < M) (hv : lv k ≤ 6) (hq : q < 9) : zMet eL l yL_at6 cL_at6 11 (some .long) 17 0 0 G [.int (nI k), .int (nI q), .ref fa, .ref aa, .ref da] h (fun r h2 => r = rowOf (oAL s) (oV s) (T k) q ∧ h = h2) := by
  refine con_of hl RL rfl (by decide +kernel) [(0, .int (nI k)), (1, .int (nI q)), (2, .ref fa), (3, .ref aa), (4, .ref da)] rfl (Nat.le_of_ble_eq_true rfl) ?_
  intro zp ze zs zm zargs zbelow zmeth zc C hr hin Q hQ
  have hM := he.1
  have hN6 := he.2.1
  obtain ⟨l1, l6, l3, hFE⟩ := he.2.2.1 k hk
  rcases hFE with ⟨f0, f1, fT, fl⟩ | ⟨f0, f1, fT, fl⟩ | ⟨f0, f1, fT, fl⟩ | ⟨f0, f1, f2, fT, fl⟩ | ⟨f0, f1, f2, fT, fl⟩ | ⟨f0, f1, fT, fl⟩
  · refine v_aload_n C 2 rfl dL_at6_0 rfl ?_
    refine v_iconst (v := 4) C dL_at6_1 (by decide) ?_
    refine v_iload_n C 0 rfl dL_at6_2 rfl ?_
    refine v_imul C dL_at6_3 (v_eqi (nI_kml k 4 (by decide)) ?_)
    refine v_iald C hF (vpin (show 4 * k < 60 by omega) (by decide)) dL_at6_4 (v_eqi (y := nI 4) ((congrArg (fun j => nI (F j)) (nI_clamp (show 4 * k < 2 ^ 31 by omega))).trans (congrArg nI f0)) ?_)
    refine v_istore C [(5, .int (nI 4)), (0, .int (nI k)), (1, .int (nI q)), (2, .ref fa), (3, .ref aa), (4, .ref da)] rfl (by decide) dL_at6_5 ?_
    refine v_aload_n C 3 rfl dL_at6_7 rfl ?_
    refine v_iconst (v := 4) C dL_at6_8 (by decide) ?_
    refine v_iload_n C 1 rfl dL_at6_9 rfl ?_
    refine v_imul C dL_at6_10 (v_eqi (nI_kml k 4 (by decide)) ?_)
    refine v_iconst (v := 1) C dL_at6_11 (by decide) ?_
    refine v_iadd C dL_at6_12 (v_eqi (nI_adk (4 * k) 1 (by decide)) ?_)
    refine v_iald C hF (vpin (show 4 * k + 1 < 60 by omega) (by decide)) dL_at6_13 (v_eqi (y := nI (F (4 * k + 1))) (congrArg (fun j => nI (F j)) (nI_clamp (show 4 * k + 1 < 2 ^ 31 by omega))) ?_)
    refine v_istore C [(6, .int (nI (F (4 * k + 1)))), (5, .int (nI 4)), (0, .int (nI k)), (1, .int (nI q)), (2, .ref fa), (3, .ref aa), (4, .ref da)] rfl (by decide) dL_at6_14 ?_
    refine v_aload_n C 4 rfl dL_at6_16 rfl ?_
    refine v_iconst (v := 4) C dL_at6_17 (by decide) ?_
    refine v_iload_n C 2 rfl dL_at6_18 rfl ?_
    refine v_imul C dL_at6_19 (v_eqi (nI_kml k 4 (by decide)) ?_)
    refine v_iconst (v := 2) C dL_at6_20 (by decide) ?_
    refine v_iadd C dL_at6_21 (v_eqi (nI_adk (4 * k) 2 (by decide)) ?_)
    refine v_iald C hF (vpin (show 4 * k + 2 < 60 by omega) (by decide)) dL_at6_22 (v_eqi (y := nI (F (4 * k + 2))) (congrArg (fun j => nI (F j)) (nI_clamp (show 4 * k + 2 < 2 ^ 31 by omega))) ?_)
    refine v_istore C [(7, .int (nI (F (4 * k + 2)))), (6, .int (nI (F (4 * k + 1)))), (5, .int (nI 4)), (0, .int (nI k)), (1, .int (nI q)), (2, .ref fa), (3, .ref aa), (4, .ref da)] rfl (by decide) dL_at6_23 ?_
    refine v_iload C 2 rfl dL_at6_25 ?_
    refine v_iconst (v := 4) C dL_at6_27 (by decide) ?_
    refine v_icmp_eq (tgt := 37) C dL_at6_28 (by decide) (fun c6 => ?_) (fun c6 => absurd c6 (by decide))
    refine v_iload_n C 3 rfl dL_at6_37 rfl ?_
    refine v_iload_n C 4 rfl dL_at6_38 rfl ?_
    refine v_aload_n C 5 rfl dL_at6_39 rfl ?_
    refine v_aload_n C 6 rfl dL_at6_40 rfl ?_
    refine v_callS (rest := []) C (c_L_at1 l hl G fa aa da k q M F A D T lv s h hw he hF hA hk (by omega) hq) S_L_22 rfl rfl (Nat.le_of_ble_eq_true rfl) ⟨Nat.le_of_ble_eq_true rfl, Nat.le_of_ble_eq_true rfl⟩ ⟨Nat.le_of_ble_eq_true rfl, Nat.le_of_ble_eq_true rfl⟩ dL_at6_41 (fun l7 h7 q7 => ?_)
    obtain ⟨e7, rfl⟩ := q7; subst e7
    exact v_lret C hQ hr (Nat.le_of_ble_eq_true rfl) (Nat.le_of_ble_eq_true rfl) dL_at6_44 ⟨rfl, rfl⟩
  · refine v_aload_n C 2 rfl dL_at6_0 rfl ?_
    refine v_iconst (v := 4) C dL_at6_1 (by decide) ?_
    refine v_iload_n C 0 rfl dL_at6_2 rfl ?_
    refine v_imul C dL_at6_3 (v_eqi (nI_kml k 4 (by decide)) ?_)
    refine v_iald C hF (vpin (show 4 * k < 60 by omega) (by decide)) dL_at6_4 (v_eqi (y := nI 5) ((congrArg (fun j => nI (F j)) (nI_clamp (show 4 * k < 2 ^ 31 by omega))).trans (congrArg nI f0)) ?_)
    refine v_istore C [(5, .int (nI 5)), (0, .int (nI k)), (1, .int (nI q)), (2, .ref fa), (3, .ref aa), (4, .ref da)] rfl (by decide) dL_at6_5 ?_
    refine v_aload_n C 3 rfl dL_at6_7 rfl ?_
    refine v_iconst (v := 4) C dL_at6_8 (by decide) ?_
    refine v_iload_n C 1 rfl dL_at6_9 rfl ?_
    refine v_imul C dL_at6_10 (v_eqi (nI_kml k 4 (by decide)) ?_)
    refine v_iconst (v := 1) C dL_at6_11 (by decide) ?_
    refine v_iadd C dL_at6_12 (v_eqi (nI_adk (4 * k) 1 (by decide)) ?_)
    refine v_iald C hF (vpin (show 4 * k + 1 < 60 by omega) (by decide)) dL_at6_13 (v_eqi (y := nI (F (4 * k + 1))) (congrArg (fun j => nI (F j)) (nI_clamp (show 4 * k + 1 < 2 ^ 31 by omega))) ?_)
    refine v_istore C [(6, .int (nI (F (4 * k + 1)))), (5, .int (nI 5)), (0, .int (nI k)), (1, .int (nI q)), (2, .ref fa), (3, .ref aa), (4, .ref da)] rfl (by decide) dL_at6_14 ?_
    refine v_aload_n C 4 rfl dL_at6_16 rfl ?_
    refine v_iconst (v := 4) C dL_at6_17 (by decide) ?_
    refine v_iload_n C 2 rfl dL_at6_18 rfl ?_
    refine v_imul C dL_at6_19 (v_eqi (nI_kml k 4 (by decide)) ?_)
    refine v_iconst (v := 2) C dL_at6_20 (by decide) ?_
    refine v_iadd C dL_at6_21 (v_eqi (nI_adk (4 * k) 2 (by decide)) ?_)
    refine v_iald C hF (vpin (show 4 * k + 2 < 60 by omega) (by decide)) dL_at6_22 (v_eqi (y := nI (F (4 * k + 2))) (congrArg (fun j => nI (F j)) (nI_clamp (show 4 * k + 2 < 2 ^ 31 by omega))) ?_)
    refine v_istore C [(7, .int (nI (F (4 * k + 2)))), (6, .int (nI (F (4 * k + 1)))), (5, .int (nI 5)), (0, .int (nI k)), (1, .int (nI q)), (2, .ref fa), (3, .ref aa), (4, .ref da)] rfl (by decide) dL_at6_23 ?_
    refine v_iload C 2 rfl dL_at6_25 ?_
    refine v_iconst (v := 4) C dL_at6_27 (by decide) ?_
    refine v_icmp_eq (tgt := 37) C dL_at6_28 (by decide) (fun c13 => absurd c13 (by decide)) (fun c13 => ?_)
    refine v_iload C 2 rfl dL_at6_31 ?_
    refine v_iconst (v := 5) C dL_at6_33 (by decide) ?_
    refine v_icmp_ne (tgt := 45) C dL_at6_34 (by decide) (fun c14 => absurd c14 (by decide)) (fun c14 => ?_)
    refine v_iload_n C 3 rfl dL_at6_37 rfl ?_
    refine v_iload_n C 4 rfl dL_at6_38 rfl ?_
    refine v_aload_n C 5 rfl dL_at6_39 rfl ?_
    refine v_aload_n C 6 rfl dL_at6_40 rfl ?_
    refine v_callS (rest := []) C (c_L_at1 l hl G fa aa da k q M F A D T lv s h hw he hF hA hk (by omega) hq) S_L_22 rfl rfl (Nat.le_of_ble_eq_true rfl) ⟨Nat.le_of_ble_eq_true rfl, Nat.le_of_ble_eq_true rfl⟩ ⟨Nat.le_of_ble_eq_true rfl, Nat.le_of_ble_eq_true rfl⟩ dL_at6_41 (fun l15 h15 q15 => ?_)
    obtain ⟨e15, rfl⟩ := q15; subst e15
    exact v_lret C hQ hr (Nat.le_of_ble_eq_true rfl) (Nat.le_of_ble_eq_true rfl) dL_at6_44 ⟨rfl, rfl⟩
  · refine v_aload_n C 2 rfl dL_at6_0 rfl ?_
    refine v_iconst (v := 4) C dL_at6_1 (by decide) ?_
    refine v_iload_n C 0 rfl dL_at6_2 rfl ?_
    refine v_imul C dL_at6_3 (v_eqi (nI_kml k 4 (by decide)) ?_)
    refine v_iald C hF (vpin (show 4 * k < 60 by omega) (by decide)) dL_at6_4 (v_eqi (y := nI 6) ((congrArg (fun j => nI (F j)) (nI_clamp (show 4 * k < 2 ^ 31 by omega))).trans (congrArg nI f0)) ?_)
    refine v_istore C [(5, .int (nI 6)), (0, .int (nI k)), (1, .int (nI q)), (2, .ref fa), (3, .ref aa), (4, .ref da)] rfl (by decide) dL_at6_5 ?_
    refine v_aload_n C 3 rfl dL_at6_7 rfl ?_
    refine v_iconst (v := 4) C dL_at6_8 (by decide) ?_
    refine v_iload_n C 1 rfl dL_at6_9 rfl ?_
    refine v_imul C dL_at6_10 (v_eqi (nI_kml k 4 (by decide)) ?_)
    refine v_iconst (v := 1) C dL_at6_11 (by decide) ?_
    refine v_iadd C dL_at6_12 (v_eqi (nI_adk (4 * k) 1 (by decide)) ?_)
    refine v_iald C hF (vpin (show 4 * k + 1 < 60 by omega) (by decide)) dL_at6_13 (v_eqi (y := nI (F (4 * k + 1))) (congrArg (fun j => nI (F j)) (nI_clamp (show 4 * k + 1 < 2 ^ 31 by omega))) ?_)
    refine v_istore C [(6, .int (nI (F (4 * k + 1)))), (5, .int (nI 6)), (0, .int (nI k)), (1, .int (nI q)), (2, .ref fa), (3, .ref aa), (4, .ref da)] rfl (by decide) dL_at6_14 ?_
    refine v_aload_n C 4 rfl dL_at6_16 rfl ?_
    refine v_iconst (v := 4) C dL_at6_17 (by decide) ?_
    refine v_iload_n C 2 rfl dL_at6_18 rfl ?_
    refine v_imul C dL_at6_19 (v_eqi (nI_kml k 4 (by decide)) ?_)
    refine v_iconst (v := 2) C dL_at6_20 (by decide) ?_
    refine v_iadd C dL_at6_21 (v_eqi (nI_adk (4 * k) 2 (by decide)) ?_)
    refine v_iald C hF (vpin (show 4 * k + 2 < 60 by omega) (by decide)) dL_at6_22 (v_eqi (y := nI (F (4 * k + 2))) (congrArg (fun j => nI (F j)) (nI_clamp (show 4 * k + 2 < 2 ^ 31 by omega))) ?_)
    refine v_istore C [(7, .int (nI (F (4 * k + 2)))), (6, .int (nI (F (4 * k + 1)))), (5, .int (nI 6)), (0, .int (nI k)), (1, .int (nI q)), (2, .ref fa), (3, .ref aa), (4, .ref da)] rfl (by decide) dL_at6_23 ?_
    refine v_iload C 2 rfl dL_at6_25 ?_
    refine v_iconst (v := 4) C dL_at6_27 (by decide) ?_
    refine v_icmp_eq (tgt := 37) C dL_at6_28 (by decide) (fun c21 => absurd c21 (by decide)) (fun c21 => ?_)
    refine v_iload C 2 rfl dL_at6_31 ?_
    refine v_iconst (v := 5) C dL_at6_33 (by decide) ?_
    refine v_icmp_ne (tgt := 45) C dL_at6_34 (by decide) (fun c22 => ?_) (fun c22 => absurd c22 (by decide))
    refine v_iload C 2 rfl dL_at6_45 ?_
    refine v_bipush (v := 6) C dL_at6_47 (by decide) ?_
    refine v_icmp_ne (tgt := 69) C dL_at6_49 (by decide) (fun c23 => absurd c23 (by decide)) (fun c23 => ?_)
    refine v_iload C 1 rfl dL_at6_52 ?_
    refine v_iload_n C 4 rfl dL_at6_54 rfl ?_
    refine v_aload C 7 rfl dL_at6_55 ?_
    obtain ⟨k2, hk2, hh2, hv2, -, ho2⟩ := he.held hw f1 (q := q) (by omega)
    refine v_callS (rest := []) C (c_L_holds l hl G (F (4 * k + 1)) q da D h hD (by omega) (by omega) (EV.d0 he hw f1)) S_L_26 rfl rfl (Nat.le_of_ble_eq_true rfl) ⟨Nat.le_of_ble_eq_true rfl, Nat.le_of_ble_eq_true rfl⟩ ⟨Nat.le_of_ble_eq_true rfl, Nat.le_of_ble_eq_true rfl⟩ dL_at6_57 (fun i24 h24 q24 => ?_)
    obtain ⟨e24, rfl⟩ := q24; rw [hh2] at e24; subst e24
    refine v_iload_n C 4 rfl dL_at6_60 rfl ?_
    refine v_aload_n C 5 rfl dL_at6_61 rfl ?_
    refine v_aload_n C 6 rfl dL_at6_62 rfl ?_
    refine v_aload C 7 rfl dL_at6_63 ?_
    refine v_callS (rest := []) C (c_L_at5 l hl G fa aa da k2 q M F A D T lv s h hw he hF hA hD hk2 (by omega) hq) S_L_79 rfl rfl (Nat.le_of_ble_eq_true rfl) ⟨Nat.le_of_ble_eq_true rfl, Nat.le_of_ble_eq_true rfl⟩ ⟨Nat.le_of_ble_eq_true rfl, Nat.le_of_ble_eq_true rfl⟩ dL_at6_65 (fun l25 h25 q25 => ?_)
    obtain ⟨e25, rfl⟩ := q25; subst e25
    exact v_lret C hQ hr (Nat.le_of_ble_eq_true rfl) (Nat.le_of_ble_eq_true rfl) dL_at6_68 ⟨by rw [fT]; exact ho2.symm, rfl⟩
  · refine v_aload_n C 2 rfl dL_at6_0 rfl ?_
    refine v_iconst (v := 4) C dL_at6_1 (by decide) ?_
    refine v_iload_n C 0 rfl dL_at6_2 rfl ?_
    refine v_imul C dL_at6_3 (v_eqi (nI_kml k 4 (by decide)) ?_)
    refine v_iald C hF (vpin (show 4 * k < 60 by omega) (by decide)) dL_at6_4 (v_eqi (y := nI (F (4 * k))) ((congrArg (fun j => nI (F j)) (nI_clamp (show 4 * k < 2 ^ 31 by omega))).trans (congrArg nI rfl)) ?_)
    refine v_istore C [(5, .int (nI (F (4 * k)))), (0, .int (nI k)), (1, .int (nI q)), (2, .ref fa), (3, .ref aa), (4, .ref da)] rfl (by decide) dL_at6_5 ?_
    refine v_aload_n C 3 rfl dL_at6_7 rfl ?_
    refine v_iconst (v := 4) C dL_at6_8 (by decide) ?_
    refine v_iload_n C 1 rfl dL_at6_9 rfl ?_
    refine v_imul C dL_at6_10 (v_eqi (nI_kml k 4 (by decide)) ?_)
    refine v_iconst (v := 1) C dL_at6_11 (by decide) ?_
    refine v_iadd C dL_at6_12 (v_eqi (nI_adk (4 * k) 1 (by decide)) ?_)
    refine v_iald C hF (vpin (show 4 * k + 1 < 60 by omega) (by decide)) dL_at6_13 (v_eqi (y := nI (F (4 * k + 1))) (congrArg (fun j => nI (F j)) (nI_clamp (show 4 * k + 1 < 2 ^ 31 by omega))) ?_)
    refine v_istore C [(6, .int (nI (F (4 * k + 1)))), (5, .int (nI (F (4 * k)))), (0, .int (nI k)), (1, .int (nI q)), (2, .ref fa), (3, .ref aa), (4, .ref da)] rfl (by decide) dL_at6_14 ?_
    refine v_aload_n C 4 rfl dL_at6_16 rfl ?_
    refine v_iconst (v := 4) C dL_at6_17 (by decide) ?_
    refine v_iload_n C 2 rfl dL_at6_18 rfl ?_
    refine v_imul C dL_at6_19 (v_eqi (nI_kml k 4 (by decide)) ?_)
    refine v_iconst (v := 2) C dL_at6_20 (by decide) ?_
    refine v_iadd C dL_at6_21 (v_eqi (nI_adk (4 * k) 2 (by decide)) ?_)
    refine v_iald C hF (vpin (show 4 * k + 2 < 60 by omega) (by decide)) dL_at6_22 (v_eqi (y := nI (F (4 * k + 2))) (congrArg (fun j => nI (F j)) (nI_clamp (show 4 * k + 2 < 2 ^ 31 by omega))) ?_)
    refine v_istore C [(7, .int (nI (F (4 * k + 2)))), (6, .int (nI (F (4 * k + 1)))), (5, .int (nI (F (4 * k)))), (0, .int (nI k)), (1, .int (nI q)), (2, .ref fa), (3, .ref aa), (4, .ref da)] rfl (by decide) dL_at6_23 ?_
    refine v_iload C 2 rfl dL_at6_25 ?_
    refine v_iconst (v := 4) C dL_at6_27 (by decide) ?_
    refine v_icmp_eq (tgt := 37) C dL_at6_28 (by decide) (fun c31 => absurd ((nk_eq (a := F (4 * k)) 4 (by decide) (by omega) (by decide)).mp c31) (by omega)) (fun c31 => ?_)
    have c31 := (nk_eq_f (a := (F (4 * k))) 4 (by decide) (by omega) (by decide)).mp c31
    refine v_iload C 2 rfl dL_at6_31 ?_
    refine v_iconst (v := 5) C dL_at6_33 (by decide) ?_
    refine v_icmp_ne (tgt := 45) C dL_at6_34 (by decide) (fun c32 => ?_) (fun c32 => absurd ((nk_ne_f (a := F (4 * k)) 5 (by decide) (by omega) (by decide)).mp c32) (by omega))
    have c32 := (nk_ne (a := (F (4 * k))) 5 (by decide) (by omega) (by decide)).mp c32
    refine v_iload C 2 rfl dL_at6_45 ?_
    refine v_bipush (v := 6) C dL_at6_47 (by decide) ?_
    refine v_icmp_ne (tgt := 69) C dL_at6_49 (by decide) (fun c33 => ?_) (fun c33 => absurd ((nk_ne_f (a := F (4 * k)) 6 (by decide) (by omega) (by decide)).mp c33) (by omega))
    have c33 := (nk_ne (a := (F (4 * k))) 6 (by decide) (by omega) (by decide)).mp c33
    refine v_iload C 1 rfl dL_at6_69 ?_
    refine v_iload_n C 4 rfl dL_at6_71 rfl ?_
    refine v_aload_n C 5 rfl dL_at6_72 rfl ?_
    refine v_aload_n C 6 rfl dL_at6_73 rfl ?_
    refine v_aload C 7 rfl dL_at6_74 ?_
    refine v_callS (rest := []) C (c_L_at5 l hl G fa aa da (F (4 * k + 1)) q M F A D T lv s h hw he hF hA hD (show F (4 * k + 1) < M by omega) (show lv (F (4 * k + 1)) ≤ 5 by omega) (by omega)) S_L_79 rfl rfl (Nat.le_of_ble_eq_true rfl) ⟨Nat.le_of_ble_eq_true rfl, Nat.le_of_ble_eq_true rfl⟩ ⟨Nat.le_of_ble_eq_true rfl, Nat.le_of_ble_eq_true rfl⟩ dL_at6_76 (fun l34 h34 q34 => ?_)
    obtain ⟨e34, rfl⟩ := q34; subst e34
    refine v_lstore C [(8, .long (rowOf (oAL s) (oV s) (T (F (4 * k + 1))) q)), (7, .int (nI (F (4 * k + 2)))), (6, .int (nI (F (4 * k + 1)))), (5, .int (nI (F (4 * k)))), (0, .int (nI k)), (1, .int (nI q)), (2, .ref fa), (3, .ref aa), (4, .ref da)] rfl (by decide) dL_at6_79 ?_
    refine v_iload C 3 rfl dL_at6_81 ?_
    refine v_bipush (v := 7) C dL_at6_83 (by decide) ?_
    refine v_icmp_ne (tgt := 101) C dL_at6_85 (by decide) (fun c35 => ?_) (fun c35 => absurd ((nk_ne_f (a := F (4 * k)) 7 (by decide) (by omega) (by decide)).mp c35) (by omega))
    have c35 := (nk_ne (a := (F (4 * k))) 7 (by decide) (by omega) (by decide)).mp c35
    refine v_iload C 3 rfl dL_at6_101 ?_
    refine v_bipush (v := 8) C dL_at6_103 (by decide) ?_
    refine v_icmp_ne (tgt := 150) C dL_at6_105 (by decide) (fun c36 => ?_) (fun c36 => absurd ((nk_ne_f (a := F (4 * k)) 8 (by decide) (by omega) (by decide)).mp c36) (by omega))
    have c36 := (nk_ne (a := (F (4 * k))) 8 (by decide) (by omega) (by decide)).mp c36
    refine v_iload C 3 rfl dL_at6_150 ?_
    refine v_lload C 0 rfl dL_at6_152 ?_
    refine v_iload C 1 rfl dL_at6_154 ?_
    refine v_iload_n C 5 rfl dL_at6_156 rfl ?_
    refine v_aload_n C 6 rfl dL_at6_157 rfl ?_
    refine v_aload_n C 7 rfl dL_at6_158 rfl ?_
    refine v_aload C 8 rfl dL_at6_159 ?_
    refine v_callS (rest := [.long (rowOf (oAL s) (oV s) (T (F (4 * k + 1))) q), .int (nI (F (4 * k)))]) C (c_L_at5 l hl G fa aa da (F (4 * k + 2)) q M F A D T lv s h hw he hF hA hD (show F (4 * k + 2) < M by omega) (show lv (F (4 * k + 2)) ≤ 5 by omega) (by omega)) S_L_79 rfl rfl (Nat.le_of_ble_eq_true rfl) ⟨Nat.le_of_ble_eq_true rfl, Nat.le_of_ble_eq_true rfl⟩ ⟨Nat.le_of_ble_eq_true rfl, Nat.le_of_ble_eq_true rfl⟩ dL_at6_161 (fun l37 h37 q37 => ?_)
    obtain ⟨e37, rfl⟩ := q37; subst e37
    refine v_callS (rest := []) C (c_L_join l hl G (F (4 * k)) (rowOf (oAL s) (oV s) (T (F (4 * k + 1))) q) (rowOf (oAL s) (oV s) (T (F (4 * k + 2))) q) h f0) S_L_36 rfl rfl (Nat.le_of_ble_eq_true rfl) ⟨Nat.le_of_ble_eq_true rfl, Nat.le_of_ble_eq_true rfl⟩ ⟨Nat.le_of_ble_eq_true rfl, Nat.le_of_ble_eq_true rfl⟩ dL_at6_164 (fun l38 h38 q38 => ?_)
    obtain ⟨e38, rfl⟩ := q38; subst e38
    exact v_lret C hQ hr (Nat.le_of_ble_eq_true rfl) (Nat.le_of_ble_eq_true rfl) dL_at6_167 ⟨by rw [fT, row_join (he.w6 hw (k := F (4 * k + 1)) (by omega)) (he.w6 hw (k := F (4 * k + 2)) (by omega)) f0], rfl⟩
  · refine v_aload_n C 2 rfl dL_at6_0 rfl ?_
    refine v_iconst (v := 4) C dL_at6_1 (by decide) ?_
    refine v_iload_n C 0 rfl dL_at6_2 rfl ?_
    refine v_imul C dL_at6_3 (v_eqi (nI_kml k 4 (by decide)) ?_)
    refine v_iald C hF (vpin (show 4 * k < 60 by omega) (by decide)) dL_at6_4 (v_eqi (y := nI 7) ((congrArg (fun j => nI (F j)) (nI_clamp (show 4 * k < 2 ^ 31 by omega))).trans (congrArg nI f0)) ?_)
    refine v_istore C [(5, .int (nI 7)), (0, .int (nI k)), (1, .int (nI q)), (2, .ref fa), (3, .ref aa), (4, .ref da)] rfl (by decide) dL_at6_5 ?_
    refine v_aload_n C 3 rfl dL_at6_7 rfl ?_
    refine v_iconst (v := 4) C dL_at6_8 (by decide) ?_
    refine v_iload_n C 1 rfl dL_at6_9 rfl ?_
    refine v_imul C dL_at6_10 (v_eqi (nI_kml k 4 (by decide)) ?_)
    refine v_iconst (v := 1) C dL_at6_11 (by decide) ?_
    refine v_iadd C dL_at6_12 (v_eqi (nI_adk (4 * k) 1 (by decide)) ?_)
    refine v_iald C hF (vpin (show 4 * k + 1 < 60 by omega) (by decide)) dL_at6_13 (v_eqi (y := nI (F (4 * k + 1))) (congrArg (fun j => nI (F j)) (nI_clamp (show 4 * k + 1 < 2 ^ 31 by omega))) ?_)
    refine v_istore C [(6, .int (nI (F (4 * k + 1)))), (5, .int (nI 7)), (0, .int (nI k)), (1, .int (nI q)), (2, .ref fa), (3, .ref aa), (4, .ref da)] rfl (by decide) dL_at6_14 ?_
    refine v_aload_n C 4 rfl dL_at6_16 rfl ?_
    refine v_iconst (v := 4) C dL_at6_17 (by decide) ?_
    refine v_iload_n C 2 rfl dL_at6_18 rfl ?_
    refine v_imul C dL_at6_19 (v_eqi (nI_kml k 4 (by decide)) ?_)
    refine v_iconst (v := 2) C dL_at6_20 (by decide) ?_
    refine v_iadd C dL_at6_21 (v_eqi (nI_adk (4 * k) 2 (by decide)) ?_)
    refine v_iald C hF (vpin (show 4 * k + 2 < 60 by omega) (by decide)) dL_at6_22 (v_eqi (y := nI (F (4 * k + 2))) (congrArg (fun j => nI (F j)) (nI_clamp (show 4 * k + 2 < 2 ^ 31 by omega))) ?_)
    refine v_istore C [(7, .int (nI (F (4 * k + 2)))), (6, .int (nI (F (4 * k + 1)))), (5, .int (nI 7)), (0, .int (nI k)), (1, .int (nI q)), (2, .ref fa), (3, .ref aa), (4, .ref da)] rfl (by decide) dL_at6_23 ?_
    refine v_iload C 2 rfl dL_at6_25 ?_
    refine v_iconst (v := 4) C dL_at6_27 (by decide) ?_
    refine v_icmp_eq (tgt := 37) C dL_at6_28 (by decide) (fun c44 => absurd c44 (by decide)) (fun c44 => ?_)
    refine v_iload C 2 rfl dL_at6_31 ?_
    refine v_iconst (v := 5) C dL_at6_33 (by decide) ?_
    refine v_icmp_ne (tgt := 45) C dL_at6_34 (by decide) (fun c45 => ?_) (fun c45 => absurd c45 (by decide))
    refine v_iload C 2 rfl dL_at6_45 ?_
    refine v_bipush (v := 6) C dL_at6_47 (by decide) ?_
    refine v_icmp_ne (tgt := 69) C dL_at6_49 (by decide) (fun c46 => ?_) (fun c46 => absurd c46 (by decide))
    refine v_iload C 1 rfl dL_at6_69 ?_
    refine v_iload_n C 4 rfl dL_at6_71 rfl ?_
    refine v_aload_n C 5 rfl dL_at6_72 rfl ?_
    refine v_aload_n C 6 rfl dL_at6_73 rfl ?_
    refine v_aload C 7 rfl dL_at6_74 ?_
    refine v_callS (rest := []) C (c_L_at5 l hl G fa aa da (F (4 * k + 1)) q M F A D T lv s h hw he hF hA hD (show F (4 * k + 1) < M by omega) (show lv (F (4 * k + 1)) ≤ 5 by omega) (by omega)) S_L_79 rfl rfl (Nat.le_of_ble_eq_true rfl) ⟨Nat.le_of_ble_eq_true rfl, Nat.le_of_ble_eq_true rfl⟩ ⟨Nat.le_of_ble_eq_true rfl, Nat.le_of_ble_eq_true rfl⟩ dL_at6_76 (fun l47 h47 q47 => ?_)
    obtain ⟨e47, rfl⟩ := q47; subst e47
    refine v_lstore C [(8, .long (rowOf (oAL s) (oV s) (T (F (4 * k + 1))) q)), (7, .int (nI (F (4 * k + 2)))), (6, .int (nI (F (4 * k + 1)))), (5, .int (nI 7)), (0, .int (nI k)), (1, .int (nI q)), (2, .ref fa), (3, .ref aa), (4, .ref da)] rfl (by decide) dL_at6_79 ?_
    refine v_iload C 3 rfl dL_at6_81 ?_
    refine v_bipush (v := 7) C dL_at6_83 (by decide) ?_
    refine v_icmp_ne (tgt := 101) C dL_at6_85 (by decide) (fun c48 => absurd c48 (by decide)) (fun c48 => ?_)
    refine v_lload C 0 rfl dL_at6_88 ?_
    refine v_iload C 1 rfl dL_at6_90 ?_
    refine v_i2l (v := lN64 (F (4 * k + 2))) C dL_at6_92 rfl ?_
    refine v_lmul C dL_at6_93 (v_eql (y := ((rowOf (oAL s) (oV s) (T (F (4 * k + 1))) q) * (lN64 (F (4 * k + 2))))) (rfl) ?_)
    refine v_ldc2 C KO_L_30 dL_at6_94 ?_
    refine v_callS (rest := []) C (c_L_down l hl G ((rowOf (oAL s) (oV s) (T (F (4 * k + 1))) q) * (lN64 (F (4 * k + 2)))) h) S_L_32 rfl rfl (Nat.le_of_ble_eq_true rfl) ⟨Nat.le_of_ble_eq_true rfl, Nat.le_of_ble_eq_true rfl⟩ ⟨Nat.le_of_ble_eq_true rfl, Nat.le_of_ble_eq_true rfl⟩ dL_at6_97 (fun l50 h50 q50 => ?_)
    obtain ⟨e50, rfl⟩ := q50; subst e50
    exact v_lret C hQ hr (Nat.le_of_ble_eq_true rfl) (Nat.le_of_ble_eq_true rfl) dL_at6_100 ⟨by rw [fT, row_share (he.w6 hw (k := F (4 * k + 1)) (by omega))], rfl⟩
  · refine v_aload_n C 2 rfl dL_at6_0 rfl ?_
    refine v_iconst (v := 4) C dL_at6_1 (by decide) ?_
    refine v_iload_n C 0 rfl dL_at6_2 rfl ?_
    refine v_imul C dL_at6_3 (v_eqi (nI_kml k 4 (by decide)) ?_)
    refine v_iald C hF (vpin (show 4 * k < 60 by omega) (by decide)) dL_at6_4 (v_eqi (y := nI 8) ((congrArg (fun j => nI (F j)) (nI_clamp (show 4 * k < 2 ^ 31 by omega))).trans (congrArg nI f0)) ?_)
    refine v_istore C [(5, .int (nI 8)), (0, .int (nI k)), (1, .int (nI q)), (2, .ref fa), (3, .ref aa), (4, .ref da)] rfl (by decide) dL_at6_5 ?_
    refine v_aload_n C 3 rfl dL_at6_7 rfl ?_
    refine v_iconst (v := 4) C dL_at6_8 (by decide) ?_
    refine v_iload_n C 1 rfl dL_at6_9 rfl ?_
    refine v_imul C dL_at6_10 (v_eqi (nI_kml k 4 (by decide)) ?_)
    refine v_iconst (v := 1) C dL_at6_11 (by decide) ?_
    refine v_iadd C dL_at6_12 (v_eqi (nI_adk (4 * k) 1 (by decide)) ?_)
    refine v_iald C hF (vpin (show 4 * k + 1 < 60 by omega) (by decide)) dL_at6_13 (v_eqi (y := nI (F (4 * k + 1))) (congrArg (fun j => nI (F j)) (nI_clamp (show 4 * k + 1 < 2 ^ 31 by omega))) ?_)
    refine v_istore C [(6, .int (nI (F (4 * k + 1)))), (5, .int (nI 8)), (0, .int (nI k)), (1, .int (nI q)), (2, .ref fa), (3, .ref aa), (4, .ref da)] rfl (by decide) dL_at6_14 ?_
    refine v_aload_n C 4 rfl dL_at6_16 rfl ?_
    refine v_iconst (v := 4) C dL_at6_17 (by decide) ?_
    refine v_iload_n C 2 rfl dL_at6_18 rfl ?_
    refine v_imul C dL_at6_19 (v_eqi (nI_kml k 4 (by decide)) ?_)
    refine v_iconst (v := 2) C dL_at6_20 (by decide) ?_
    refine v_iadd C dL_at6_21 (v_eqi (nI_adk (4 * k) 2 (by decide)) ?_)
    refine v_iald C hF (vpin (show 4 * k + 2 < 60 by omega) (by decide)) dL_at6_22 (v_eqi (y := nI (F (4 * k + 2))) (congrArg (fun j => nI (F j)) (nI_clamp (show 4 * k + 2 < 2 ^ 31 by omega))) ?_)
    refine v_istore C [(7, .int (nI (F (4 * k + 2)))), (6, .int (nI (F (4 * k + 1)))), (5, .int (nI 8)), (0, .int (nI k)), (1, .int (nI q)), (2, .ref fa), (3, .ref aa), (4, .ref da)] rfl (by decide) dL_at6_23 ?_
    refine v_iload C 2 rfl dL_at6_25 ?_
    refine v_iconst (v := 4) C dL_at6_27 (by decide) ?_
    refine v_icmp_eq (tgt := 37) C dL_at6_28 (by decide) (fun c56 => absurd c56 (by decide)) (fun c56 => ?_)
    refine v_iload C 2 rfl dL_at6_31 ?_
    refine v_iconst (v := 5) C dL_at6_33 (by decide) ?_
    refine v_icmp_ne (tgt := 45) C dL_at6_34 (by decide) (fun c57 => ?_) (fun c57 => absurd c57 (by decide))
    refine v_iload C 2 rfl dL_at6_45 ?_
    refine v_bipush (v := 6) C dL_at6_47 (by decide) ?_
    refine v_icmp_ne (tgt := 69) C dL_at6_49 (by decide) (fun c58 => ?_) (fun c58 => absurd c58 (by decide))
    refine v_iload C 1 rfl dL_at6_69 ?_
    refine v_iload_n C 4 rfl dL_at6_71 rfl ?_
    refine v_aload_n C 5 rfl dL_at6_72 rfl ?_
    refine v_aload_n C 6 rfl dL_at6_73 rfl ?_
    refine v_aload C 7 rfl dL_at6_74 ?_
    refine v_callS (rest := []) C (c_L_at5 l hl G fa aa da (F (4 * k + 1)) q M F A D T lv s h hw he hF hA hD (show F (4 * k + 1) < M by omega) (show lv (F (4 * k + 1)) ≤ 5 by omega) (by omega)) S_L_79 rfl rfl (Nat.le_of_ble_eq_true rfl) ⟨Nat.le_of_ble_eq_true rfl, Nat.le_of_ble_eq_true rfl⟩ ⟨Nat.le_of_ble_eq_true rfl, Nat.le_of_ble_eq_true rfl⟩ dL_at6_76 (fun l59 h59 q59 => ?_)
    obtain ⟨e59, rfl⟩ := q59; subst e59
    refine v_lstore C [(8, .long (rowOf (oAL s) (oV s) (T (F (4 * k + 1))) q)), (7, .int (nI (F (4 * k + 2)))), (6, .int (nI (F (4 * k + 1)))), (5, .int (nI 8)), (0, .int (nI k)), (1, .int (nI q)), (2, .ref fa), (3, .ref aa), (4, .ref da)] rfl (by decide) dL_at6_79 ?_
    refine v_iload C 3 rfl dL_at6_81 ?_
    refine v_bipush (v := 7) C dL_at6_83 (by decide) ?_
    refine v_icmp_ne (tgt := 101) C dL_at6_85 (by decide) (fun c60 => ?_) (fun c60 => absurd c60 (by decide))
    refine v_iload C 3 rfl dL_at6_101 ?_
    refine v_bipush (v := 8) C dL_at6_103 (by decide) ?_
    refine v_icmp_ne (tgt := 150) C dL_at6_105 (by decide) (fun c61 => absurd c61 (by decide)) (fun c61 => ?_)
    refine v_iconst (v := 1) C dL_at6_108 (by decide) ?_
    refine v_istore C [(10, .int 1), (8, .long (rowOf (oAL s) (oV s) (T (F (4 * k + 1))) q)), (7, .int (nI (F (4 * k + 2)))), (6, .int (nI (F (4 * k + 1)))), (5, .int (nI 8)), (0, .int (nI k)), (1, .int (nI q)), (2, .ref fa), (3, .ref aa), (4, .ref da)] rfl (by decide) dL_at6_109 ?_
    have L62 : ∀ (d : Nat) (b : Nat) (w : Int64), (1 ≤ b) → (b ≤ 4) → (w = syr (rowOf (oAL s) (oV s) (T (F (4 * k + 1)))) q b) → (4 < b + d) → V zp l ze (rmm 17 0 0) zs zm zargs zbelow zmeth zc G 11 Q h (0 + 0) (0 + 0) 111 [(10, .int (nI b)), (8, .long w), (0, .int (nI k)), (1, .int (nI q)), (2, .ref fa), (3, .ref aa), (4, .ref da), (5, .int (nI 8)), (6, .int (nI (F (4 * k + 1)))), (7, .int (nI (F (4 * k + 2))))] [] := by
      intro d
      induction d with
      | zero =>
        intro b w hb1 hb4 hwb hd
        exact absurd hd (by omega)
      | succ d ih62 =>
        intro b w hb1 hb4 hwb hd
        refine v_iload C 0 rfl dL_at6_111 ?_
        refine v_iconst (v := 4) C dL_at6_113 (by decide) ?_
        refine v_icmp_ge (tgt := 147) C dL_at6_114 (by decide) (fun c63 => ?_) (fun c63 => ?_)
        · have c63 := (nk_ge (a := b) 4 (by decide) (by omega) (by decide)).mp c63
          refine v_lload C 1 rfl dL_at6_147 ?_
          exact v_lret C hQ hr (Nat.le_of_ble_eq_true rfl) (Nat.le_of_ble_eq_true rfl) dL_at6_149 ⟨by rw [fT, row_year (he.w6 hw (k := F (4 * k + 1)) (by omega))]; exact hwb.trans (syr_stop_or (by omega)).symm, rfl⟩
        · have c63 := (nk_ge_f (a := b) 4 (by decide) (by omega) (by decide)).mp c63
          refine v_iload C 0 rfl dL_at6_117 ?_
          refine v_iload_n C 3 rfl dL_at6_119 rfl ?_
          refine v_icmp_gt (tgt := 147) C dL_at6_120 (by decide) (fun c64 => ?_) (fun c64 => ?_)
          · have c64 := (nn_gt (a := b) (b := q) (by omega) (by omega)).mp c64
            refine v_lload C 1 rfl dL_at6_147 ?_
            exact v_lret C hQ hr (Nat.le_of_ble_eq_true rfl) (Nat.le_of_ble_eq_true rfl) dL_at6_149 ⟨by rw [fT, row_year (he.w6 hw (k := F (4 * k + 1)) (by omega))]; exact hwb.trans (syr_stop_or (by omega)).symm, rfl⟩
          · have c64 := (nn_gt_f (a := b) (b := q) (by omega) (by omega)).mp c64
            refine v_lload C 1 rfl dL_at6_123 ?_
            refine v_iload C 8 rfl dL_at6_125 ?_
            refine v_iload_n C 3 rfl dL_at6_127 rfl ?_
            refine v_iload C 0 rfl dL_at6_128 ?_
            refine v_isub C dL_at6_130 (v_eqi (pk_sub (a := q) (b := b) (by omega)) ?_)
            refine v_aload_n C 4 rfl dL_at6_131 rfl ?_
            refine v_aload_n C 5 rfl dL_at6_132 rfl ?_
            refine v_aload C 6 rfl dL_at6_133 ?_
            refine v_callS (rest := [.long w]) C (c_L_at5 l hl G fa aa da (F (4 * k + 1)) (q - b) M F A D T lv s h hw he hF hA hD (show F (4 * k + 1) < M by omega) (show lv (F (4 * k + 1)) ≤ 5 by omega) (by omega)) S_L_79 rfl rfl (Nat.le_of_ble_eq_true rfl) ⟨Nat.le_of_ble_eq_true rfl, Nat.le_of_ble_eq_true rfl⟩ ⟨Nat.le_of_ble_eq_true rfl, Nat.le_of_ble_eq_true rfl⟩ dL_at6_135 (fun l66 h66 q66 => ?_)
            obtain ⟨e66, rfl⟩ := q66; subst e66
            refine v_ladd C dL_at6_138 (v_eql (y := (syr (rowOf (oAL s) (oV s) (T (F (4 * k + 1)))) q (b + 1))) ((congrArg (· + _) hwb).trans (syr_s (b := b) (by omega)).symm) ?_)
            refine v_lstore C [(8, .long (syr (rowOf (oAL s) (oV s) (T (F (4 * k + 1)))) q (b + 1))), (10, .int (nI b)), (0, .int (nI k)), (1, .int (nI q)), (2, .ref fa), (3, .ref aa), (4, .ref da), (5, .int (nI 8)), (6, .int (nI (F (4 * k + 1)))), (7, .int (nI (F (4 * k + 2))))] rfl (by decide) dL_at6_139 ?_
            refine v_iinc C 1 [(10, .int (nI (b + 1))), (8, .long (syr (rowOf (oAL s) (oV s) (T (F (4 * k + 1)))) q (b + 1))), (0, .int (nI k)), (1, .int (nI q)), (2, .ref fa), (3, .ref aa), (4, .ref da), (5, .int (nI 8)), (6, .int (nI (F (4 * k + 1)))), (7, .int (nI (F (4 * k + 2))))] rfl (nI_inc b 1 (by decide)) rfl (by decide) dL_at6_141 ?_
            refine v_goto (tgt := 111) C dL_at6_144 (by decide) ?_
            refine v_lvp [0, 1, 2, 3, 4, 5, 6, 7, 8, 9] rfl ?_
            exact ih62 (b + 1) _ (by omega) (by omega) rfl (by omega)
    refine v_lvp [0, 1, 5, 6, 7, 8, 9, 4, 3, 2] rfl ?_
    exact L62 5 1 _ (by omega) (by omega) (show _ = syr (rowOf (oAL s) (oV s) (T (F (4 * k + 1)))) q 0 + rowOf (oAL s) (oV s) (T (F (4 * k + 1))) (q - 0) from (Int64.zero_add _).symm) (by omega)

theorem XQ.rf {G : zG} {h : zH} {g : XGh} {x : Nat} {s : ZS} (hi : XI G h g x s) : XQ G h h g x s := ⟨g, hi, fun _ _ hb hr => ⟨hb, hr⟩⟩
theorem held_of {s : ZS} {t q : Nat} {T : List Tok} (h : shd (oD s t) q = some T) : tHeld s t q = T := by unfold tHeld; rw [h]; rfl
set_option maxHeartbeats 4000000 in
set_option maxRecDepth 100000 in
theorem c_X4_level (l : Launch) (hl : l.stackTraces = false) (G : zG) (x : Nat) (g : XGh) (s : ZS) (t : Int32) (h : zH) (hi : XI G h g x s) (hw : WFs s)  : zMetX eI l yX4_level cX4_level 2 (some .int) 15 10 200 G [.ref x, .int t] h (fun res h2 => (kIsT s t) = 0 ∧ res = nI (oL s (cl t)) ∧ XQ G h h2 g x s) (fun E h2 => h2 = h ∧ (((kIsT s t) = 1 ∧ E = "java/lang/IndexOutOfBoundsException"))) := by
  refine con_ofX hl RX4 rfl (by decide +kernel) [(0, .ref x), (1, .int t)] rfl (Nat.le_of_ble_eq_true rfl) ?_
  intro zp ze zs zm zargs zbelow zmeth zc C hr hin hto hQ
  obtain ⟨⟨hO, hA, ⟨hL0, hL1, hL2, hL3⟩, hS, hN, hT, hR, hB⟩, hV⟩ := id hi
  obtain ⟨mo0, hmo0⟩ := hL0.1.2.1
  obtain ⟨mo1, hmo1⟩ := hL1.1.2.1
  obtain ⟨mo2, hmo2⟩ := hL2.1.2.1
  obtain ⟨mo3, hmo3⟩ := hL3.1.2.1
  obtain ⟨fo, to, qo⟩ := hO.2.2.2
  have eS : (oS s).length = (qS g).length := by rw [hS.2, List.length_map]
  have hw2 : (oS s).length ≤ 8 := hw.1
  have hw7 : oN s ≤ 10 := hw.2.2.1.1
  have hw17 : rN s ≤ 6 := hw.2.2.2.2.1.1
  have hw25 : bN s ≤ 6 := hw.2.2.2.2.2.1
  refine v_ge C (fun hg => ?_)
  refine v_aload_n C 0 rfl dX4_level_0 rfl ?_
  refine v_iload_n C 1 rfl dX4_level_1 rfl ?_
  refine v_callV (rest := []) C (c_X4_isTerm l hl G x (qA g 1 0) (qA g 14 0) (qA g 14 1) (qA g 14 2) (qA g 14 3) (qA g 15 1) ((List.range (oN s)).map (qA g 3)) t h hO.1 hL1.1) K_X4_94 hO.1 rfl rfl (Nat.le_of_ble_eq_true rfl) ⟨Nat.le_of_ble_eq_true rfl, Nat.le_of_ble_eq_true rfl⟩ ⟨Nat.le_of_ble_eq_true rfl, Nat.le_of_ble_eq_true rfl⟩ dX4_level_2 (fun i1 h1 q1 => ?_)
  obtain ⟨e1, rfl⟩ := q1; rw [mr_len] at e1
  by_cases c1 : inN t (oN s)
  · rw [zb_t c1] at e1; subst e1
    obtain ⟨j2, hj2, en2⟩ := inN.nat c1 (by omega)
    subst en2
    have eCt : cl (nI j2) = j2 := cl_nI (by omega)
    obtain ⟨r3T, r4T, r5T, t3T, ⟨fdT, t4T, hdfT⟩, -⟩ := hT j2 (by omega)
    obtain ⟨vT, t5T, qvT⟩ := hV j2 (by omega)
    refine v_if_ne (tgt := 18) C dX4_level_5 (by decide) (fun c3 => ?_) (fun c3 => absurd c3 (by decide))
    refine v_aload_n C 0 rfl dX4_level_18 rfl ?_
    refine v_get (v := .ref (qA g 14 1)) C F_X4_21 hO.1 rfl dX4_level_19 ?_
    refine v_iload_n C 1 rfl dX4_level_22 rfl ?_
    refine v_callV (rest := []) C (c_Jx4a65c_get_915e3 l hl G (qA g 14 1) (qA g 15 1) ((List.range (oN s)).map (qA g 3)) j2 h hL1.1 (by rw [mr_len]; omega)) K_X4_99 hmo1 rfl rfl (Nat.le_of_ble_eq_true rfl) ⟨Nat.le_of_ble_eq_true rfl, Nat.le_of_ble_eq_true rfl⟩ ⟨Nat.le_of_ble_eq_true rfl, Nat.le_of_ble_eq_true rfl⟩ dX4_level_23 (fun i4 h4 q4 => ?_)
    obtain ⟨e4, rfl⟩ := q4; rw [mr_get (show j2 < (oN s) by omega)] at e4; subst e4
    refine v_chk C CA_X4_103 t3T dX4_level_26 ?_
    refine v_get (v := .int (nI (oL s j2))) C F_X4_105 t3T rfl dX4_level_29 ?_
    have ek : (kIsT s (nI j2)) = 0 := by simp [kIsT, inN, wth, c1]
    exact v_iret C hQ hr rfl (Nat.le_of_ble_eq_true rfl) (Nat.le_of_ble_eq_true rfl) dX4_level_32 ⟨ek, (by rw [eCt]), (XQ.rf hi)⟩
  · rw [zb_f c1] at e1; subst e1
    refine v_if_ne (tgt := 18) C dX4_level_5 (by decide) (fun c5 => absurd c5 (by decide)) (fun c5 => ?_)
    have ek : (kIsT s t) = 1 := by simp [kIsT, inN, wth, c1]
    exact v_throwS C (TH_37 (i := 97) (tx := "no such term") (by decide)) hto dX4_level_8 dX4_level_11 dX4_level_12 dX4_level_14 dX4_level_17 (Nat.le_of_ble_eq_true rfl) (Nat.le_of_ble_eq_true rfl) ⟨Nat.le_of_ble_eq_true rfl, Nat.le_of_ble_eq_true rfl⟩ ⟨Nat.le_of_ble_eq_true rfl, Nat.le_of_ble_eq_true rfl⟩ ⟨rfl, ⟨ek, rfl⟩⟩
set_option maxHeartbeats 4000000 in
set_option maxRecDepth 100000 in
theorem c_X4_value (l : Launch) (hl : l.stackTraces = false) (G : zG) (x : Nat) (g : XGh) (s : ZS) (t q : Int32) (h : zH) (hi : XI G h g x s) (hw : WFs s)  : zMetX eL l yX4_value cX4_value 3 (some .long) 15 10 200 G [.ref x, .int t, .int q] h (fun res h2 => (kIsTQ s t q) = 0 ∧ res = oV s (cl t) (cl q) ∧ XQ G h h2 g x s) (fun E h2 => h2 = h ∧ (((kIsTQ s t q) = 1 ∧ E = "java/lang/IndexOutOfBoundsException"))) := by
  refine con_ofX hl RX4 rfl (by decide +kernel) [(0, .ref x), (1, .int t), (2, .int q)] rfl (Nat.le_of_ble_eq_true rfl) ?_
  intro zp ze zs zm zargs zbelow zmeth zc C hr hin hto hQ
  obtain ⟨⟨hO, hA, ⟨hL0, hL1, hL2, hL3⟩, hS, hN, hT, hR, hB⟩, hV⟩ := id hi
  obtain ⟨mo0, hmo0⟩ := hL0.1.2.1
  obtain ⟨mo1, hmo1⟩ := hL1.1.2.1
  obtain ⟨mo2, hmo2⟩ := hL2.1.2.1
  obtain ⟨mo3, hmo3⟩ := hL3.1.2.1
  obtain ⟨fo, to, qo⟩ := hO.2.2.2
  have eS : (oS s).length = (qS g).length := by rw [hS.2, List.length_map]
  have hw2 : (oS s).length ≤ 8 := hw.1
  have hw7 : oN s ≤ 10 := hw.2.2.1.1
  have hw17 : rN s ≤ 6 := hw.2.2.2.2.1.1
  have hw25 : bN s ≤ 6 := hw.2.2.2.2.2.1
  refine v_ge C (fun hg => ?_)
  refine v_aload_n C 0 rfl dX4_value_0 rfl ?_
  refine v_iload_n C 1 rfl dX4_value_1 rfl ?_
  refine v_callV (rest := []) C (c_X4_isTerm l hl G x (qA g 1 0) (qA g 14 0) (qA g 14 1) (qA g 14 2) (qA g 14 3) (qA g 15 1) ((List.range (oN s)).map (qA g 3)) t h hO.1 hL1.1) K_X4_94 hO.1 rfl rfl (Nat.le_of_ble_eq_true rfl) ⟨Nat.le_of_ble_eq_true rfl, Nat.le_of_ble_eq_true rfl⟩ ⟨Nat.le_of_ble_eq_true rfl, Nat.le_of_ble_eq_true rfl⟩ dX4_value_2 (fun i1 h1 q1 => ?_)
  obtain ⟨e1, rfl⟩ := q1; rw [mr_len] at e1
  by_cases c1 : inN t (oN s)
  · rw [zb_t c1] at e1; subst e1
    obtain ⟨j2, hj2, en2⟩ := inN.nat c1 (by omega)
    subst en2
    have eCt : cl (nI j2) = j2 := cl_nI (by omega)
    obtain ⟨r3T, r4T, r5T, t3T, ⟨fdT, t4T, hdfT⟩, -⟩ := hT j2 (by omega)
    obtain ⟨vT, t5T, qvT⟩ := hV j2 (by omega)
    refine v_if_eq (tgt := 15) C dX4_value_5 (by decide) (fun c3 => absurd c3 (by decide)) (fun c3 => ?_)
    refine v_iload_n C 2 rfl dX4_value_8 rfl ?_
    refine v_callS (rest := []) C (c_X4_isQuarter l hl G q h) S_X4_34 rfl rfl (Nat.le_of_ble_eq_true rfl) ⟨Nat.le_of_ble_eq_true rfl, Nat.le_of_ble_eq_true rfl⟩ ⟨Nat.le_of_ble_eq_true rfl, Nat.le_of_ble_eq_true rfl⟩ dX4_value_9 (fun i4 h4 q4 => ?_)
    obtain ⟨e4, rfl⟩ := q4
    by_cases c4 : inN q 20
    · rw [zb_t c4] at e4; subst e4
      obtain ⟨j5, hj5, en5⟩ := inN.nat c4 (by omega)
      subst en5
      have eCq : cl (nI j5) = j5 := cl_nI (by omega)
      refine v_if_ne (tgt := 25) C dX4_value_12 (by decide) (fun c6 => ?_) (fun c6 => absurd c6 (by decide))
      refine v_aload_n C 0 rfl dX4_value_25 rfl ?_
      refine v_get (v := .ref (qA g 14 1)) C F_X4_21 hO.1 rfl dX4_value_26 ?_
      refine v_iload_n C 1 rfl dX4_value_29 rfl ?_
      refine v_callV (rest := []) C (c_Jx4a65c_get_915e3 l hl G (qA g 14 1) (qA g 15 1) ((List.range (oN s)).map (qA g 3)) j2 h hL1.1 (by rw [mr_len]; omega)) K_X4_99 hmo1 rfl rfl (Nat.le_of_ble_eq_true rfl) ⟨Nat.le_of_ble_eq_true rfl, Nat.le_of_ble_eq_true rfl⟩ ⟨Nat.le_of_ble_eq_true rfl, Nat.le_of_ble_eq_true rfl⟩ dX4_value_30 (fun i7 h7 q7 => ?_)
      obtain ⟨e7, rfl⟩ := q7; rw [mr_get (show j2 < (oN s) by omega)] at e7; subst e7
      refine v_chk C CA_X4_103 t3T dX4_value_33 ?_
      refine v_get (v := .ref (qA g 5 j2)) C F_X4_113 t3T rfl dX4_value_36 ?_
      refine v_iload_n C 2 rfl dX4_value_39 rfl ?_
      refine v_lald C t5T (vpin (show j5 < 20 by omega) (by decide)) dX4_value_40 (v_eql (y := (oV s j2 j5)) ((congrArg vT (nI_clamp (show j5 < 2 ^ 31 by omega))).trans (qvT j5 (by omega))) ?_)
      have ek : (kIsTQ s (nI j2) (nI j5)) = 0 := by simp [kIsTQ, inN, wth, c1, c4]
      exact v_lret C hQ hr (Nat.le_of_ble_eq_true rfl) (Nat.le_of_ble_eq_true rfl) dX4_value_41 ⟨ek, (by rw [eCt, eCq]), (XQ.rf hi)⟩
    · rw [zb_f c4] at e4; subst e4
      refine v_if_ne (tgt := 25) C dX4_value_12 (by decide) (fun c8 => absurd c8 (by decide)) (fun c8 => ?_)
      have ek : (kIsTQ s (nI j2) q) = 1 := by simp [kIsTQ, inN, wth, c1, c4]
      exact v_throwS C (TH_37 (i := 195) (tx := "no such term or quarter") (by decide)) hto dX4_value_15 dX4_value_18 dX4_value_19 dX4_value_21 dX4_value_24 (Nat.le_of_ble_eq_true rfl) (Nat.le_of_ble_eq_true rfl) ⟨Nat.le_of_ble_eq_true rfl, Nat.le_of_ble_eq_true rfl⟩ ⟨Nat.le_of_ble_eq_true rfl, Nat.le_of_ble_eq_true rfl⟩ ⟨rfl, ⟨ek, rfl⟩⟩
  · rw [zb_f c1] at e1; subst e1
    refine v_if_eq (tgt := 15) C dX4_value_5 (by decide) (fun c10 => ?_) (fun c10 => absurd c10 (by decide))
    have ek : (kIsTQ s t q) = 1 := by simp [kIsTQ, inN, wth, c1]
    exact v_throwS C (TH_37 (i := 195) (tx := "no such term or quarter") (by decide)) hto dX4_value_15 dX4_value_18 dX4_value_19 dX4_value_21 dX4_value_24 (Nat.le_of_ble_eq_true rfl) (Nat.le_of_ble_eq_true rfl) ⟨Nat.le_of_ble_eq_true rfl, Nat.le_of_ble_eq_true rfl⟩ ⟨Nat.le_of_ble_eq_true rfl, Nat.le_of_ble_eq_true rfl⟩ ⟨rfl, ⟨ek, rfl⟩⟩
set_option maxHeartbeats 4000000 in
set_option maxRecDepth 100000 in
theorem c_X4_textLength (l : Launch) (hl : l.stackTraces = false) (G : zG) (x : Nat) (g : XGh) (s : ZS) (t q : Int32) (h : zH) (hi : XI G h g x s) (hw : WFs s)  : zMetX eI l yX4_textLength cX4_textLength 3 (some .int) 15 10 200 G [.ref x, .int t, .int q] h (fun res h2 => (kIsTQ s t q) = 0 ∧ res = nI (txtOf (tHeld s (cl t) (cl q))).length ∧ XQ G h h2 g x s) (fun E h2 => h2 = h ∧ (((kIsTQ s t q) = 1 ∧ E = "java/lang/IndexOutOfBoundsException"))) := by
  refine con_ofX hl RX4 rfl (by decide +kernel) [(0, .ref x), (1, .int t), (2, .int q)] rfl (Nat.le_of_ble_eq_true rfl) ?_
  intro zp ze zs zm zargs zbelow zmeth zc C hr hin hto hQ
  obtain ⟨⟨hO, hA, ⟨hL0, hL1, hL2, hL3⟩, hS, hN, hT, hR, hB⟩, hV⟩ := id hi
  obtain ⟨mo0, hmo0⟩ := hL0.1.2.1
  obtain ⟨mo1, hmo1⟩ := hL1.1.2.1
  obtain ⟨mo2, hmo2⟩ := hL2.1.2.1
  obtain ⟨mo3, hmo3⟩ := hL3.1.2.1
  obtain ⟨fo, to, qo⟩ := hO.2.2.2
  have eS : (oS s).length = (qS g).length := by rw [hS.2, List.length_map]
  have hw2 : (oS s).length ≤ 8 := hw.1
  have hw7 : oN s ≤ 10 := hw.2.2.1.1
  have hw17 : rN s ≤ 6 := hw.2.2.2.2.1.1
  have hw25 : bN s ≤ 6 := hw.2.2.2.2.2.1
  refine v_ge C (fun hg => ?_)
  refine v_aload_n C 0 rfl dX4_textLength_0 rfl ?_
  refine v_iload_n C 1 rfl dX4_textLength_1 rfl ?_
  refine v_callV (rest := []) C (c_X4_isTerm l hl G x (qA g 1 0) (qA g 14 0) (qA g 14 1) (qA g 14 2) (qA g 14 3) (qA g 15 1) ((List.range (oN s)).map (qA g 3)) t h hO.1 hL1.1) K_X4_94 hO.1 rfl rfl (Nat.le_of_ble_eq_true rfl) ⟨Nat.le_of_ble_eq_true rfl, Nat.le_of_ble_eq_true rfl⟩ ⟨Nat.le_of_ble_eq_true rfl, Nat.le_of_ble_eq_true rfl⟩ dX4_textLength_2 (fun i1 h1 q1 => ?_)
  obtain ⟨e1, rfl⟩ := q1; rw [mr_len] at e1
  by_cases c1 : inN t (oN s)
  · rw [zb_t c1] at e1; subst e1
    obtain ⟨j2, hj2, en2⟩ := inN.nat c1 (by omega)
    subst en2
    have eCt : cl (nI j2) = j2 := cl_nI (by omega)
    obtain ⟨r3T, r4T, r5T, t3T, ⟨fdT, t4T, hdfT⟩, -⟩ := hT j2 (by omega)
    obtain ⟨vT, t5T, qvT⟩ := hV j2 (by omega)
    refine v_if_eq (tgt := 15) C dX4_textLength_5 (by decide) (fun c3 => absurd c3 (by decide)) (fun c3 => ?_)
    refine v_iload_n C 2 rfl dX4_textLength_8 rfl ?_
    refine v_callS (rest := []) C (c_X4_isQuarter l hl G q h) S_X4_34 rfl rfl (Nat.le_of_ble_eq_true rfl) ⟨Nat.le_of_ble_eq_true rfl, Nat.le_of_ble_eq_true rfl⟩ ⟨Nat.le_of_ble_eq_true rfl, Nat.le_of_ble_eq_true rfl⟩ dX4_textLength_9 (fun i4 h4 q4 => ?_)
    obtain ⟨e4, rfl⟩ := q4
    by_cases c4 : inN q 20
    · rw [zb_t c4] at e4; subst e4
      obtain ⟨j5, hj5, en5⟩ := inN.nat c4 (by omega)
      subst en5
      have eCq : cl (nI j5) = j5 := cl_nI (by omega)
      refine v_if_ne (tgt := 25) C dX4_textLength_12 (by decide) (fun c6 => ?_) (fun c6 => absurd c6 (by decide))
      refine v_aload_n C 0 rfl dX4_textLength_25 rfl ?_
      refine v_get (v := .ref (qA g 14 1)) C F_X4_21 hO.1 rfl dX4_textLength_26 ?_
      refine v_iload_n C 1 rfl dX4_textLength_29 rfl ?_
      refine v_callV (rest := []) C (c_Jx4a65c_get_915e3 l hl G (qA g 14 1) (qA g 15 1) ((List.range (oN s)).map (qA g 3)) j2 h hL1.1 (by rw [mr_len]; omega)) K_X4_99 hmo1 rfl rfl (Nat.le_of_ble_eq_true rfl) ⟨Nat.le_of_ble_eq_true rfl, Nat.le_of_ble_eq_true rfl⟩ ⟨Nat.le_of_ble_eq_true rfl, Nat.le_of_ble_eq_true rfl⟩ dX4_textLength_30 (fun i7 h7 q7 => ?_)
      obtain ⟨e7, rfl⟩ := q7; rw [mr_get (show j2 < (oN s) by omega)] at e7; subst e7
      refine v_chk C CA_X4_103 t3T dX4_textLength_33 ?_
      refine v_iload_n C 2 rfl dX4_textLength_36 rfl ?_
      refine v_callS (rest := []) C (c_X4_textIn l hl G x j2 j5 g s h hi hw (by omega) (by omega)) S_X4_210 rfl rfl (Nat.le_of_ble_eq_true rfl) ⟨Nat.le_of_ble_eq_true rfl, Nat.le_of_ble_eq_true rfl⟩ ⟨Nat.le_of_ble_eq_true rfl, Nat.le_of_ble_eq_true rfl⟩ dX4_textLength_37 (fun r8 h8 w8 => ?_)
      obtain ⟨⟨an, er8, hran, hshd⟩, rfl⟩ := w8; subst er8
      obtain ⟨u1an, u2an, u3an, u4an, ⟨⟨gfan, x1an, x2an, x3an, x4an, x5an⟩, y1an, y2an⟩, kdan, ppan, caan, cban, hcan, -⟩ := hN _ hran
      have htxn : hTx G h (qN g an 1) (qN g an 2) gfan (txtOf (qT g an)) := ⟨x1an, x2an, x3an, x4an, x5an⟩
      have hth := held_of hshd
      have htl := u3an.txl6 u2an
      refine v_callT (rest := []) C (c_J0_length_8abf5 l hl G (qN g an 1) (qN g an 2) (txtOf (qT g an)).length gfan h htxn.tt.1) K_X4_214 htxn.tt.1 rfl rfl (Nat.le_of_ble_eq_true rfl) ⟨Nat.le_of_ble_eq_true rfl, Nat.le_of_ble_eq_true rfl⟩ ⟨Nat.le_of_ble_eq_true rfl, Nat.le_of_ble_eq_true rfl⟩ dX4_textLength_40 (fun i9 h9 q9 => ?_)
      obtain ⟨e9, rfl⟩ := q9; subst e9
      have ek : (kIsTQ s (nI j2) (nI j5)) = 0 := by simp [kIsTQ, inN, wth, c1, c4]
      exact v_iret C hQ hr rfl (Nat.le_of_ble_eq_true rfl) (Nat.le_of_ble_eq_true rfl) dX4_textLength_43 ⟨ek, (by rw [eCt, eCq, hth]), (XQ.rf hi)⟩
    · rw [zb_f c4] at e4; subst e4
      refine v_if_ne (tgt := 25) C dX4_textLength_12 (by decide) (fun c10 => absurd c10 (by decide)) (fun c10 => ?_)
      have ek : (kIsTQ s (nI j2) q) = 1 := by simp [kIsTQ, inN, wth, c1, c4]
      exact v_throwS C (TH_37 (i := 195) (tx := "no such term or quarter") (by decide)) hto dX4_textLength_15 dX4_textLength_18 dX4_textLength_19 dX4_textLength_21 dX4_textLength_24 (Nat.le_of_ble_eq_true rfl) (Nat.le_of_ble_eq_true rfl) ⟨Nat.le_of_ble_eq_true rfl, Nat.le_of_ble_eq_true rfl⟩ ⟨Nat.le_of_ble_eq_true rfl, Nat.le_of_ble_eq_true rfl⟩ ⟨rfl, ⟨ek, rfl⟩⟩
  · rw [zb_f c1] at e1; subst e1
    refine v_if_eq (tgt := 15) C dX4_textLength_5 (by decide) (fun c12 => ?_) (fun c12 => absurd c12 (by decide))
    have ek : (kIsTQ s t q) = 1 := by simp [kIsTQ, inN, wth, c1]
    exact v_throwS C (TH_37 (i := 195) (tx := "no such term or quarter") (by decide)) hto dX4_textLength_15 dX4_textLength_18 dX4_textLength_19 dX4_textLength_21 dX4_textLength_24 (Nat.le_of_ble_eq_true rfl) (Nat.le_of_ble_eq_true rfl) ⟨Nat.le_of_ble_eq_true rfl, Nat.le_of_ble_eq_true rfl⟩ ⟨Nat.le_of_ble_eq_true rfl, Nat.le_of_ble_eq_true rfl⟩ ⟨rfl, ⟨ek, rfl⟩⟩
set_option maxHeartbeats 4000000 in
set_option maxRecDepth 100000 in
theorem c_X4_textChar (l : Launch) (hl : l.stackTraces = false) (G : zG) (x : Nat) (g : XGh) (s : ZS) (t q j : Int32) (h : zH) (hi : XI G h g x s) (hw : WFs s)  : zMetX eI l yX4_textChar cX4_textChar 5 (some .char) 16 10 200 G [.ref x, .int t, .int q, .int j] h (fun res h2 => (kChar s t q j) = 0 ∧ res = nI ((txtOf (tHeld s (cl t) (cl q))).getD (cl j) 0) ∧ XQ G h h2 g x s) (fun E h2 => h2 = h ∧ (((kChar s t q j) = 1 ∧ E = "java/lang/IndexOutOfBoundsException"))) := by
  refine con_ofX hl RX4 rfl (by decide +kernel) [(0, .ref x), (1, .int t), (2, .int q), (3, .int j)] rfl (Nat.le_of_ble_eq_true rfl) ?_
  intro zp ze zs zm zargs zbelow zmeth zc C hr hin hto hQ
  obtain ⟨⟨hO, hA, ⟨hL0, hL1, hL2, hL3⟩, hS, hN, hT, hR, hB⟩, hV⟩ := id hi
  obtain ⟨mo0, hmo0⟩ := hL0.1.2.1
  obtain ⟨mo1, hmo1⟩ := hL1.1.2.1
  obtain ⟨mo2, hmo2⟩ := hL2.1.2.1
  obtain ⟨mo3, hmo3⟩ := hL3.1.2.1
  obtain ⟨fo, to, qo⟩ := hO.2.2.2
  have eS : (oS s).length = (qS g).length := by rw [hS.2, List.length_map]
  have hw2 : (oS s).length ≤ 8 := hw.1
  have hw7 : oN s ≤ 10 := hw.2.2.1.1
  have hw17 : rN s ≤ 6 := hw.2.2.2.2.1.1
  have hw25 : bN s ≤ 6 := hw.2.2.2.2.2.1
  refine v_ge C (fun hg => ?_)
  refine v_aload_n C 0 rfl dX4_textChar_0 rfl ?_
  refine v_iload_n C 1 rfl dX4_textChar_1 rfl ?_
  refine v_callV (rest := []) C (c_X4_isTerm l hl G x (qA g 1 0) (qA g 14 0) (qA g 14 1) (qA g 14 2) (qA g 14 3) (qA g 15 1) ((List.range (oN s)).map (qA g 3)) t h hO.1 hL1.1) K_X4_94 hO.1 rfl rfl (Nat.le_of_ble_eq_true rfl) ⟨Nat.le_of_ble_eq_true rfl, Nat.le_of_ble_eq_true rfl⟩ ⟨Nat.le_of_ble_eq_true rfl, Nat.le_of_ble_eq_true rfl⟩ dX4_textChar_2 (fun i1 h1 q1 => ?_)
  obtain ⟨e1, rfl⟩ := q1; rw [mr_len] at e1
  by_cases c1 : inN t (oN s)
  · rw [zb_t c1] at e1; subst e1
    obtain ⟨j2, hj2, en2⟩ := inN.nat c1 (by omega)
    subst en2
    have eCt : cl (nI j2) = j2 := cl_nI (by omega)
    obtain ⟨r3T, r4T, r5T, t3T, ⟨fdT, t4T, hdfT⟩, -⟩ := hT j2 (by omega)
    obtain ⟨vT, t5T, qvT⟩ := hV j2 (by omega)
    refine v_if_eq (tgt := 15) C dX4_textChar_5 (by decide) (fun c3 => absurd c3 (by decide)) (fun c3 => ?_)
    refine v_iload_n C 2 rfl dX4_textChar_8 rfl ?_
    refine v_callS (rest := []) C (c_X4_isQuarter l hl G q h) S_X4_34 rfl rfl (Nat.le_of_ble_eq_true rfl) ⟨Nat.le_of_ble_eq_true rfl, Nat.le_of_ble_eq_true rfl⟩ ⟨Nat.le_of_ble_eq_true rfl, Nat.le_of_ble_eq_true rfl⟩ dX4_textChar_9 (fun i4 h4 q4 => ?_)
    obtain ⟨e4, rfl⟩ := q4
    by_cases c4 : inN q 20
    · rw [zb_t c4] at e4; subst e4
      obtain ⟨j5, hj5, en5⟩ := inN.nat c4 (by omega)
      subst en5
      have eCq : cl (nI j5) = j5 := cl_nI (by omega)
      refine v_if_ne (tgt := 25) C dX4_textChar_12 (by decide) (fun c6 => ?_) (fun c6 => absurd c6 (by decide))
      refine v_aload_n C 0 rfl dX4_textChar_25 rfl ?_
      refine v_get (v := .ref (qA g 14 1)) C F_X4_21 hO.1 rfl dX4_textChar_26 ?_
      refine v_iload_n C 1 rfl dX4_textChar_29 rfl ?_
      refine v_callV (rest := []) C (c_Jx4a65c_get_915e3 l hl G (qA g 14 1) (qA g 15 1) ((List.range (oN s)).map (qA g 3)) j2 h hL1.1 (by rw [mr_len]; omega)) K_X4_99 hmo1 rfl rfl (Nat.le_of_ble_eq_true rfl) ⟨Nat.le_of_ble_eq_true rfl, Nat.le_of_ble_eq_true rfl⟩ ⟨Nat.le_of_ble_eq_true rfl, Nat.le_of_ble_eq_true rfl⟩ dX4_textChar_30 (fun i7 h7 q7 => ?_)
      obtain ⟨e7, rfl⟩ := q7; rw [mr_get (show j2 < (oN s) by omega)] at e7; subst e7
      refine v_chk C CA_X4_103 t3T dX4_textChar_33 ?_
      refine v_iload_n C 2 rfl dX4_textChar_36 rfl ?_
      refine v_callS (rest := []) C (c_X4_textIn l hl G x j2 j5 g s h hi hw (by omega) (by omega)) S_X4_210 rfl rfl (Nat.le_of_ble_eq_true rfl) ⟨Nat.le_of_ble_eq_true rfl, Nat.le_of_ble_eq_true rfl⟩ ⟨Nat.le_of_ble_eq_true rfl, Nat.le_of_ble_eq_true rfl⟩ dX4_textChar_37 (fun r8 h8 w8 => ?_)
      obtain ⟨⟨an, er8, hran, hshd⟩, rfl⟩ := w8; subst er8
      obtain ⟨u1an, u2an, u3an, u4an, ⟨⟨gfan, x1an, x2an, x3an, x4an, x5an⟩, y1an, y2an⟩, kdan, ppan, caan, cban, hcan, -⟩ := hN _ hran
      have htxn : hTx G h (qN g an 1) (qN g an 2) gfan (txtOf (qT g an)) := ⟨x1an, x2an, x3an, x4an, x5an⟩
      have hth := held_of hshd
      have htl := u3an.txl6 u2an
      refine v_astore C [(4, .ref (qN g an 1)), (0, .ref x), (1, .int (nI j2)), (2, .int (nI j5)), (3, .int j)] rfl (by decide) dX4_textChar_40 ?_
      refine v_iload_n C 4 rfl dX4_textChar_42 rfl ?_
      refine v_if_lt (tgt := 55) C dX4_textChar_43 (by decide) (fun c9 => ?_) (fun c9 => ?_)
      · have cJ : ¬ inN j (txtOf (tHeld s (cl (nI j2)) (cl (nI j5)))).length := fun z => Int32.not_lt.mpr (inN_iff.mp z).1 c9
        have ek : (kChar s (nI j2) (nI j5) j) = 1 := (if_pos ⟨c1, c4⟩).trans (if_neg (by exact cJ))
        exact v_throwS C (TH_37 (i := 219) (tx := "no such character") (by decide)) hto dX4_textChar_55 dX4_textChar_58 dX4_textChar_59 dX4_textChar_61 dX4_textChar_64 (Nat.le_of_ble_eq_true rfl) (Nat.le_of_ble_eq_true rfl) ⟨Nat.le_of_ble_eq_true rfl, Nat.le_of_ble_eq_true rfl⟩ ⟨Nat.le_of_ble_eq_true rfl, Nat.le_of_ble_eq_true rfl⟩ ⟨rfl, ⟨ek, rfl⟩⟩
      · refine v_iload_n C 4 rfl dX4_textChar_46 rfl ?_
        refine v_aload C 0 rfl dX4_textChar_47 ?_
        refine v_callT (rest := [.int j]) C (c_J0_length_8abf5 l hl G (qN g an 1) (qN g an 2) (txtOf (qT g an)).length gfan h htxn.tt.1) K_X4_214 htxn.tt.1 rfl rfl (Nat.le_of_ble_eq_true rfl) ⟨Nat.le_of_ble_eq_true rfl, Nat.le_of_ble_eq_true rfl⟩ ⟨Nat.le_of_ble_eq_true rfl, Nat.le_of_ble_eq_true rfl⟩ dX4_textChar_49 (fun i11 h11 q11 => ?_)
        obtain ⟨e11, rfl⟩ := q11; subst e11
        refine v_icmp_lt (tgt := 65) C dX4_textChar_52 (by decide) (fun c12 => ?_) (fun c12 => ?_)
        · have cJ : inN j (txtOf (qT g an)).length := inN_iff.mpr ⟨Int32.not_lt.mp c9, c12⟩
          obtain ⟨j13, hj13, en13⟩ := inN.nat cJ (by omega)
          subst en13
          refine v_aload C 0 rfl dX4_textChar_65 ?_
          refine v_iload_n C 4 rfl dX4_textChar_67 rfl ?_
          refine v_callT (rest := []) C (c_J0_charAt_5068e l hl G (qN g an 1) (qN g an 2) (txtOf (qT g an)).length j13 ((txtOf (qT g an)).getD j13 0) gfan h htxn.tt.1 (by omega) (by omega) (asc_get x4an (by omega)) (x3an _ (by omega))) K_X4_221 htxn.tt.1 rfl rfl (Nat.le_of_ble_eq_true rfl) ⟨Nat.le_of_ble_eq_true rfl, Nat.le_of_ble_eq_true rfl⟩ ⟨Nat.le_of_ble_eq_true rfl, Nat.le_of_ble_eq_true rfl⟩ dX4_textChar_68 (fun i14 h14 q14 => ?_)
          obtain ⟨e14, rfl⟩ := q14; subst e14
          have ek : (kChar s (nI j2) (nI j5) (nI j13)) = 0 := (if_pos ⟨c1, c4⟩).trans (if_pos (by rw [eCt, eCq, hth]; exact cJ))
          exact v_iret C hQ hr (ch_nar (asc_get x4an (by omega))) (Nat.le_of_ble_eq_true rfl) (Nat.le_of_ble_eq_true rfl) dX4_textChar_71 ⟨ek, (by rw [eCt, eCq, hth, cl_nI (by omega)]), (XQ.rf hi)⟩
        · have cJ : ¬ inN j (txtOf (tHeld s (cl (nI j2)) (cl (nI j5)))).length := fun z => by
              rw [eCt, eCq, hth] at z; exact c12 (inN_iff.mp z).2
          have ek : (kChar s (nI j2) (nI j5) j) = 1 := (if_pos ⟨c1, c4⟩).trans (if_neg (by exact cJ))
          exact v_throwS C (TH_37 (i := 219) (tx := "no such character") (by decide)) hto dX4_textChar_55 dX4_textChar_58 dX4_textChar_59 dX4_textChar_61 dX4_textChar_64 (Nat.le_of_ble_eq_true rfl) (Nat.le_of_ble_eq_true rfl) ⟨Nat.le_of_ble_eq_true rfl, Nat.le_of_ble_eq_true rfl⟩ ⟨Nat.le_of_ble_eq_true rfl, Nat.le_of_ble_eq_true rfl⟩ ⟨rfl, ⟨ek, rfl⟩⟩
    · rw [zb_f c4] at e4; subst e4
      refine v_if_ne (tgt := 25) C dX4_textChar_12 (by decide) (fun c16 => absurd c16 (by decide)) (fun c16 => ?_)
      have ek : (kChar s (nI j2) q j) = 1 := by simp [kChar, inN, c1, c4]
      exact v_throwS C (TH_37 (i := 195) (tx := "no such term or quarter") (by decide)) hto dX4_textChar_15 dX4_textChar_18 dX4_textChar_19 dX4_textChar_21 dX4_textChar_24 (Nat.le_of_ble_eq_true rfl) (Nat.le_of_ble_eq_true rfl) ⟨Nat.le_of_ble_eq_true rfl, Nat.le_of_ble_eq_true rfl⟩ ⟨Nat.le_of_ble_eq_true rfl, Nat.le_of_ble_eq_true rfl⟩ ⟨rfl, ⟨ek, rfl⟩⟩
  · rw [zb_f c1] at e1; subst e1
    refine v_if_eq (tgt := 15) C dX4_textChar_5 (by decide) (fun c18 => ?_) (fun c18 => absurd c18 (by decide))
    have ek : (kChar s t q j) = 1 := by simp [kChar, inN, c1]
    exact v_throwS C (TH_37 (i := 195) (tx := "no such term or quarter") (by decide)) hto dX4_textChar_15 dX4_textChar_18 dX4_textChar_19 dX4_textChar_21 dX4_textChar_24 (Nat.le_of_ble_eq_true rfl) (Nat.le_of_ble_eq_true rfl) ⟨Nat.le_of_ble_eq_true rfl, Nat.le_of_ble_eq_true rfl⟩ ⟨Nat.le_of_ble_eq_true rfl, Nat.le_of_ble_eq_true rfl⟩ ⟨rfl, ⟨ek, rfl⟩⟩
set_option maxHeartbeats 4000000 in
set_option maxRecDepth 100000 in
theorem c_X4_state (l : Launch) (hl : l.stackTraces = false) (G : zG) (x : Nat) (g : XGh) (s : ZS) (r q : Int32) (h : zH) (hi : XI G h g x s) (hw : WFs s)  : zMetX eI l yX4_state cX4_state 3 (some .int) 15 10 200 G [.ref x, .int r, .int q] h (fun res h2 => (kIsRQ s r q) = 0 ∧ res = nI (vState s (cl r) (cl q)) ∧ XQ G h h2 g x s) (fun E h2 => h2 = h ∧ (((kIsRQ s r q) = 1 ∧ E = "java/lang/IndexOutOfBoundsException"))) := by
  refine con_ofX hl RX4 rfl (by decide +kernel) [(0, .ref x), (1, .int r), (2, .int q)] rfl (Nat.le_of_ble_eq_true rfl) ?_
  intro zp ze zs zm zargs zbelow zmeth zc C hr hin hto hQ
  obtain ⟨⟨hO, hA, ⟨hL0, hL1, hL2, hL3⟩, hS, hN, hT, hR, hB⟩, hV⟩ := id hi
  obtain ⟨mo0, hmo0⟩ := hL0.1.2.1
  obtain ⟨mo1, hmo1⟩ := hL1.1.2.1
  obtain ⟨mo2, hmo2⟩ := hL2.1.2.1
  obtain ⟨mo3, hmo3⟩ := hL3.1.2.1
  obtain ⟨fo, to, qo⟩ := hO.2.2.2
  have eS : (oS s).length = (qS g).length := by rw [hS.2, List.length_map]
  have hw2 : (oS s).length ≤ 8 := hw.1
  have hw7 : oN s ≤ 10 := hw.2.2.1.1
  have hw17 : rN s ≤ 6 := hw.2.2.2.2.1.1
  have hw25 : bN s ≤ 6 := hw.2.2.2.2.2.1
  refine v_ge C (fun hg => ?_)
  refine v_aload_n C 0 rfl dX4_state_0 rfl ?_
  refine v_iload_n C 1 rfl dX4_state_1 rfl ?_
  refine v_callV (rest := []) C (c_X4_isTest l hl G x (qA g 1 0) (qA g 14 0) (qA g 14 1) (qA g 14 2) (qA g 14 3) (qA g 15 2) ((List.range (rN s)).map (qA g 6)) r h hO.1 hL2.1) K_X4_285 hO.1 rfl rfl (Nat.le_of_ble_eq_true rfl) ⟨Nat.le_of_ble_eq_true rfl, Nat.le_of_ble_eq_true rfl⟩ ⟨Nat.le_of_ble_eq_true rfl, Nat.le_of_ble_eq_true rfl⟩ dX4_state_2 (fun i1 h1 q1 => ?_)
  obtain ⟨e1, rfl⟩ := q1; rw [mr_len] at e1
  by_cases c1 : inN r (rN s)
  · rw [zb_t c1] at e1; subst e1
    obtain ⟨j2, hj2, en2⟩ := inN.nat c1 (by omega)
    subst en2
    have eCr : cl (nI j2) = j2 := cl_nI (by omega)
    obtain ⟨r6, r7, r8, r9, t6, ⟨f7, t7, q7⟩, ⟨f8, t8, q8⟩, f9, t9, q9⟩ := hR j2 (by omega)
    obtain ⟨hwT, hwB, hwW, hwL⟩ := hw.2.2.2.2.1.2.1 j2 (by omega)
    refine v_if_eq (tgt := 15) C dX4_state_5 (by decide) (fun c3 => absurd c3 (by decide)) (fun c3 => ?_)
    refine v_iload_n C 2 rfl dX4_state_8 rfl ?_
    refine v_callS (rest := []) C (c_X4_isQuarter l hl G q h) S_X4_34 rfl rfl (Nat.le_of_ble_eq_true rfl) ⟨Nat.le_of_ble_eq_true rfl, Nat.le_of_ble_eq_true rfl⟩ ⟨Nat.le_of_ble_eq_true rfl, Nat.le_of_ble_eq_true rfl⟩ dX4_state_9 (fun i4 h4 q4 => ?_)
    obtain ⟨e4, rfl⟩ := q4
    by_cases c4 : inN q 20
    · rw [zb_t c4] at e4; subst e4
      obtain ⟨j5, hj5, en5⟩ := inN.nat c4 (by omega)
      subst en5
      have eCq : cl (nI j5) = j5 := cl_nI (by omega)
      refine v_if_ne (tgt := 26) C dX4_state_12 (by decide) (fun c6 => ?_) (fun c6 => absurd c6 (by decide))
      refine v_aload_n C 0 rfl dX4_state_26 rfl ?_
      refine v_aload_n C 0 rfl dX4_state_27 rfl ?_
      refine v_get (v := .ref (qA g 14 2)) C F_X4_24 hO.1 rfl dX4_state_28 ?_
      refine v_iload_n C 1 rfl dX4_state_31 rfl ?_
      refine v_callV (rest := [.ref x]) C (c_Jx4a65c_get_915e3 l hl G (qA g 14 2) (qA g 15 2) ((List.range (rN s)).map (qA g 6)) j2 h hL2.1 (by rw [mr_len]; omega)) K_X4_99 hmo2 rfl rfl (Nat.le_of_ble_eq_true rfl) ⟨Nat.le_of_ble_eq_true rfl, Nat.le_of_ble_eq_true rfl⟩ ⟨Nat.le_of_ble_eq_true rfl, Nat.le_of_ble_eq_true rfl⟩ dX4_state_32 (fun i7 h7 q7 => ?_)
      obtain ⟨e7, rfl⟩ := q7; rw [mr_get (show j2 < (rN s) by omega)] at e7; subst e7
      refine v_chk C CA_X4_280 t6 dX4_state_35 ?_
      refine v_iload_n C 2 rfl dX4_state_38 rfl ?_
      refine v_callV (rest := []) C (c_X4_stateIn l hl G x j2 j5 g s h hi hw (by omega) (by omega)) K_X4_327 hO.1 rfl rfl (Nat.le_of_ble_eq_true rfl) ⟨Nat.le_of_ble_eq_true rfl, Nat.le_of_ble_eq_true rfl⟩ ⟨Nat.le_of_ble_eq_true rfl, Nat.le_of_ble_eq_true rfl⟩ dX4_state_39 (fun i8 h8 q8 => ?_)
      obtain ⟨e8, rfl⟩ := q8; subst e8
      have hvs := vState_le s j2 j5
      have ek : (kIsRQ s (nI j2) (nI j5)) = 0 := by simp [kIsRQ, inN, wth, c1, c4]
      exact v_iret C hQ hr rfl (Nat.le_of_ble_eq_true rfl) (Nat.le_of_ble_eq_true rfl) dX4_state_42 ⟨ek, (by rw [eCr, eCq]), (XQ.rf hi)⟩
    · rw [zb_f c4] at e4; subst e4
      refine v_if_ne (tgt := 26) C dX4_state_12 (by decide) (fun c9 => absurd c9 (by decide)) (fun c9 => ?_)
      have ek : (kIsRQ s (nI j2) q) = 1 := by simp [kIsRQ, inN, wth, c1, c4]
      exact v_throwSW C (TH_37 (i := 288) (tx := "no such test or quarter") (by decide)) hto dX4_state_15 dX4_state_18 dX4_state_19 dX4_state_22 dX4_state_25 (Nat.le_of_ble_eq_true rfl) (Nat.le_of_ble_eq_true rfl) ⟨Nat.le_of_ble_eq_true rfl, Nat.le_of_ble_eq_true rfl⟩ ⟨Nat.le_of_ble_eq_true rfl, Nat.le_of_ble_eq_true rfl⟩ ⟨rfl, ⟨ek, rfl⟩⟩
  · rw [zb_f c1] at e1; subst e1
    refine v_if_eq (tgt := 15) C dX4_state_5 (by decide) (fun c11 => ?_) (fun c11 => absurd c11 (by decide))
    have ek : (kIsRQ s r q) = 1 := by simp [kIsRQ, inN, wth, c1]
    exact v_throwSW C (TH_37 (i := 288) (tx := "no such test or quarter") (by decide)) hto dX4_state_15 dX4_state_18 dX4_state_19 dX4_state_22 dX4_state_25 (Nat.le_of_ble_eq_true rfl) (Nat.le_of_ble_eq_true rfl) ⟨Nat.le_of_ble_eq_true rfl, Nat.le_of_ble_eq_true rfl⟩ ⟨Nat.le_of_ble_eq_true rfl, Nat.le_of_ble_eq_true rfl⟩ ⟨rfl, ⟨ek, rfl⟩⟩
set_option maxHeartbeats 4000000 in
set_option maxRecDepth 100000 in
theorem c_X4_room (l : Launch) (hl : l.stackTraces = false) (G : zG) (x : Nat) (g : XGh) (s : ZS) (r q : Int32) (h : zH) (hi : XI G h g x s) (hw : WFs s)  : zMetX eL l yX4_room cX4_room 7 (some .long) 15 10 200 G [.ref x, .int r, .int q] h (fun res h2 => (kRoom s r q) = 0 ∧ res = vRoom s (cl r) (cl q) ∧ XQ G h h2 g x s) (fun E h2 => h2 = h ∧ (((kRoom s r q) = 1 ∧ E = "java/lang/IndexOutOfBoundsException") ∨ ((kRoom s r q) = 2 ∧ E = "java/lang/IllegalStateException"))) := by
  refine con_ofX hl RX4 rfl (by decide +kernel) [(0, .ref x), (1, .int r), (2, .int q)] rfl (Nat.le_of_ble_eq_true rfl) ?_
  intro zp ze zs zm zargs zbelow zmeth zc C hr hin hto hQ
  obtain ⟨⟨hO, hA, ⟨hL0, hL1, hL2, hL3⟩, hS, hN, hT, hR, hB⟩, hV⟩ := id hi
  obtain ⟨mo0, hmo0⟩ := hL0.1.2.1
  obtain ⟨mo1, hmo1⟩ := hL1.1.2.1
  obtain ⟨mo2, hmo2⟩ := hL2.1.2.1
  obtain ⟨mo3, hmo3⟩ := hL3.1.2.1
  obtain ⟨fo, to, qo⟩ := hO.2.2.2
  have eS : (oS s).length = (qS g).length := by rw [hS.2, List.length_map]
  have hw2 : (oS s).length ≤ 8 := hw.1
  have hw7 : oN s ≤ 10 := hw.2.2.1.1
  have hw17 : rN s ≤ 6 := hw.2.2.2.2.1.1
  have hw25 : bN s ≤ 6 := hw.2.2.2.2.2.1
  refine v_ge C (fun hg => ?_)
  refine v_aload_n C 0 rfl dX4_room_0 rfl ?_
  refine v_iload_n C 1 rfl dX4_room_1 rfl ?_
  refine v_callV (rest := []) C (c_X4_isTest l hl G x (qA g 1 0) (qA g 14 0) (qA g 14 1) (qA g 14 2) (qA g 14 3) (qA g 15 2) ((List.range (rN s)).map (qA g 6)) r h hO.1 hL2.1) K_X4_285 hO.1 rfl rfl (Nat.le_of_ble_eq_true rfl) ⟨Nat.le_of_ble_eq_true rfl, Nat.le_of_ble_eq_true rfl⟩ ⟨Nat.le_of_ble_eq_true rfl, Nat.le_of_ble_eq_true rfl⟩ dX4_room_2 (fun i1 h1 q1 => ?_)
  obtain ⟨e1, rfl⟩ := q1; rw [mr_len] at e1
  by_cases c1 : inN r (rN s)
  · rw [zb_t c1] at e1; subst e1
    obtain ⟨j2, hj2, en2⟩ := inN.nat c1 (by omega)
    subst en2
    have eCr : cl (nI j2) = j2 := cl_nI (by omega)
    obtain ⟨r6, r7, r8, r9, t6, ⟨f7, t7, q7⟩, ⟨f8, t8, q8⟩, f9, t9, q9⟩ := hR j2 (by omega)
    obtain ⟨hwT, hwB, hwW, hwL⟩ := hw.2.2.2.2.1.2.1 j2 (by omega)
    obtain ⟨r3T, r4T, r5T, t3T, -, -⟩ := hT (rT s j2) hwT
    obtain ⟨vT, t5T, qvT⟩ := hV (rT s j2) hwT
    obtain ⟨r3B, r4B, r5B, t3B, -, -⟩ := hT (rB s j2) hwB
    obtain ⟨vB, t5B, qvB⟩ := hV (rB s j2) hwB
    refine v_if_eq (tgt := 15) C dX4_room_5 (by decide) (fun c3 => absurd c3 (by decide)) (fun c3 => ?_)
    refine v_iload_n C 2 rfl dX4_room_8 rfl ?_
    refine v_callS (rest := []) C (c_X4_isQuarter l hl G q h) S_X4_34 rfl rfl (Nat.le_of_ble_eq_true rfl) ⟨Nat.le_of_ble_eq_true rfl, Nat.le_of_ble_eq_true rfl⟩ ⟨Nat.le_of_ble_eq_true rfl, Nat.le_of_ble_eq_true rfl⟩ dX4_room_9 (fun i4 h4 q4 => ?_)
    obtain ⟨e4, rfl⟩ := q4
    by_cases c4 : inN q 20
    · rw [zb_t c4] at e4; subst e4
      obtain ⟨j5, hj5, en5⟩ := inN.nat c4 (by omega)
      subst en5
      have eCq : cl (nI j5) = j5 := cl_nI (by omega)
      refine v_if_ne (tgt := 26) C dX4_room_12 (by decide) (fun c6 => ?_) (fun c6 => absurd c6 (by decide))
      refine v_aload_n C 0 rfl dX4_room_26 rfl ?_
      refine v_get (v := .ref (qA g 14 2)) C F_X4_24 hO.1 rfl dX4_room_27 ?_
      refine v_iload_n C 1 rfl dX4_room_30 rfl ?_
      refine v_callV (rest := []) C (c_Jx4a65c_get_915e3 l hl G (qA g 14 2) (qA g 15 2) ((List.range (rN s)).map (qA g 6)) j2 h hL2.1 (by rw [mr_len]; omega)) K_X4_99 hmo2 rfl rfl (Nat.le_of_ble_eq_true rfl) ⟨Nat.le_of_ble_eq_true rfl, Nat.le_of_ble_eq_true rfl⟩ ⟨Nat.le_of_ble_eq_true rfl, Nat.le_of_ble_eq_true rfl⟩ dX4_room_31 (fun i7 h7 q7 => ?_)
      obtain ⟨e7, rfl⟩ := q7; rw [mr_get (show j2 < (rN s) by omega)] at e7; subst e7
      refine v_chk C CA_X4_280 t6 dX4_room_34 ?_
      refine v_astore_n C [(3, .ref (qA g 6 j2)), (0, .ref x), (1, .int (nI j2)), (2, .int (nI j5))] rfl (by decide) dX4_room_37 rfl ?_
      refine v_aload_n C 0 rfl dX4_room_38 rfl ?_
      refine v_iload_n C 3 rfl dX4_room_39 rfl ?_
      refine v_callS (rest := []) C (c_X4_limitIn l hl G (qA g 6 j2) (qA g 7 j2) j5 f7 (rL s j2) _ _ _ _ _ _ _ _ h t6 t7 (by omega) q7) S_X4_331 rfl rfl (Nat.le_of_ble_eq_true rfl) ⟨Nat.le_of_ble_eq_true rfl, Nat.le_of_ble_eq_true rfl⟩ ⟨Nat.le_of_ble_eq_true rfl, Nat.le_of_ble_eq_true rfl⟩ dX4_room_40 (fun i8 h8 q8 => ?_)
      obtain ⟨e8, rfl⟩ := q8; subst e8
      refine v_istore C [(4, .int (lmA (rL s j2) j5)), (3, .ref (qA g 6 j2)), (0, .ref x), (1, .int (nI j2)), (2, .int (nI j5))] rfl (by decide) dX4_room_43 ?_
      refine v_aload_n C 1 rfl dX4_room_45 rfl ?_
      refine v_get (v := .ref (qA g 3 (rB s j2))) C F_X4_334 t6 rfl dX4_room_46 ?_
      refine v_get (v := .ref (qA g 5 (rB s j2))) C F_X4_113 t3B rfl dX4_room_49 ?_
      refine v_iload_n C 4 rfl dX4_room_52 rfl ?_
      refine v_lald C t5B (vpin (show j5 < 20 by omega) (by decide)) dX4_room_53 (v_eql (y := (oV s (rB s j2) j5)) ((congrArg vB (nI_clamp (show j5 < 2 ^ 31 by omega))).trans (qvB j5 (by omega))) ?_)
      refine v_aload_n C 1 rfl dX4_room_54 rfl ?_
      refine v_get (v := .ref (qA g 8 j2)) C F_X4_311 t6 rfl dX4_room_55 ?_
      refine v_iload_n C 4 rfl dX4_room_58 rfl ?_
      refine v_iald C t8 (vpin (show j5 < 20 by omega) (by decide)) dX4_room_59 (v_eqi (y := (rC s j2 j5)) ((congrArg f8 (nI_clamp (show j5 < 2 ^ 31 by omega))).trans (q8 j5 (by omega))) ?_)
      refine v_i2l (v := ((rC s j2 j5) : Int32).toInt64) C dX4_room_60 rfl ?_
      refine v_ladd C dX4_room_61 (v_eql (y := ((oV s (rB s j2) j5) + (Int32.toInt64 (rC s j2 j5)))) (rfl) ?_)
      refine v_lstore C [(5, .long ((oV s (rB s j2) j5) + (Int32.toInt64 (rC s j2 j5)))), (4, .int (lmA (rL s j2) j5)), (3, .ref (qA g 6 j2)), (0, .ref x), (1, .int (nI j2)), (2, .int (nI j5))] rfl (by decide) dX4_room_62 ?_
      refine v_iload C 1 rfl dX4_room_64 ?_
      refine v_iconst (v := (-1)) C dX4_room_66 (by decide) ?_
      refine v_icmp_eq (tgt := 77) C dX4_room_67 (by decide) (fun c10 => ?_) (fun c10 => ?_)
      · have ek : (kRoom s (nI j2) (nI j5)) = 2 := (if_pos ⟨c1, c4⟩).trans (if_pos (by rw [eCr, eCq]; exact Or.inl c10))
        exact v_throwSW C (TH_64 (i := 338) (tx := "no limit, or a bottom that is not above 0") (by decide)) hto dX4_room_77 dX4_room_80 dX4_room_81 dX4_room_84 dX4_room_87 (Nat.le_of_ble_eq_true rfl) (Nat.le_of_ble_eq_true rfl) ⟨Nat.le_of_ble_eq_true rfl, Nat.le_of_ble_eq_true rfl⟩ ⟨Nat.le_of_ble_eq_true rfl, Nat.le_of_ble_eq_true rfl⟩ ⟨rfl, Or.inr (⟨ek, rfl⟩)⟩
      · refine v_lload C 0 rfl dX4_room_70 ?_
        refine v_lconst (v := 0) C dX4_room_72 (by decide) ?_
        refine v_lcmp C dX4_room_73 ?_
        refine v_if_gt (tgt := 88) C dX4_room_74 (by decide) (fun c12 => ?_) (fun c12 => ?_)
        · have c12 := (lgc_gt ((oV s (rB s j2) j5) + (Int32.toInt64 (rC s j2 j5))) 0).mp c12
          refine v_iload C 1 rfl dX4_room_88 ?_
          refine v_i2l (v := ((lmA (rL s j2) j5) : Int32).toInt64) C dX4_room_90 rfl ?_
          refine v_lload C 0 rfl dX4_room_91 ?_
          refine v_lmul C dX4_room_93 (v_eql (y := ((Int32.toInt64 (lmA (rL s j2) j5)) * ((oV s (rB s j2) j5) + (Int32.toInt64 (rC s j2 j5))))) (rfl) ?_)
          refine v_ldc2 C KO_X4_273 dX4_room_94 ?_
          refine v_callS (rest := []) C (c_J9_floorDiv_f86c9 l hl G ((Int32.toInt64 (lmA (rL s j2) j5)) * ((oV s (rB s j2) j5) + (Int32.toInt64 (rC s j2 j5)))) h) S_X4_275 rfl rfl (Nat.le_of_ble_eq_true rfl) ⟨Nat.le_of_ble_eq_true rfl, Nat.le_of_ble_eq_true rfl⟩ ⟨Nat.le_of_ble_eq_true rfl, Nat.le_of_ble_eq_true rfl⟩ dX4_room_97 (fun l14 h14 q14 => ?_)
          obtain ⟨e14, rfl⟩ := q14; subst e14
          refine v_aload_n C 2 rfl dX4_room_100 rfl ?_
          refine v_get (v := .ref (qA g 3 (rT s j2))) C F_X4_340 t6 rfl dX4_room_101 ?_
          refine v_get (v := .ref (qA g 5 (rT s j2))) C F_X4_113 t3T rfl dX4_room_104 ?_
          refine v_iload_n C 5 rfl dX4_room_107 rfl ?_
          refine v_lald C t5T (vpin (show j5 < 20 by omega) (by decide)) dX4_room_108 (v_eql (y := (oV s (rT s j2) j5)) ((congrArg vT (nI_clamp (show j5 < 2 ^ 31 by omega))).trans (qvT j5 (by omega))) ?_)
          refine v_lsub C dX4_room_109 (v_eql (y := ((zfd ((Int32.toInt64 (lmA (rL s j2) j5)) * ((oV s (rB s j2) j5) + (Int32.toInt64 (rC s j2 j5))))) - (oV s (rT s j2) j5))) (rfl) ?_)
          have ek : (kRoom s (nI j2) (nI j5)) = 0 := (if_pos ⟨c1, c4⟩).trans (if_neg (by rw [eCr, eCq]; exact fun z => z.elim c10 (fun y => Int64.not_lt.mpr y c12)))
          exact v_lret C hQ hr (Nat.le_of_ble_eq_true rfl) (Nat.le_of_ble_eq_true rfl) dX4_room_110 ⟨ek, (by rw [eCr, eCq]; rfl), (XQ.rf hi)⟩
        · have c12 := (lgc_gt_f ((oV s (rB s j2) j5) + (Int32.toInt64 (rC s j2 j5))) 0).mp c12
          have ek : (kRoom s (nI j2) (nI j5)) = 2 := (if_pos ⟨c1, c4⟩).trans (if_pos (by rw [eCr, eCq]; exact Or.inr (Int64.not_lt.mp c12)))
          exact v_throwSW C (TH_64 (i := 338) (tx := "no limit, or a bottom that is not above 0") (by decide)) hto dX4_room_77 dX4_room_80 dX4_room_81 dX4_room_84 dX4_room_87 (Nat.le_of_ble_eq_true rfl) (Nat.le_of_ble_eq_true rfl) ⟨Nat.le_of_ble_eq_true rfl, Nat.le_of_ble_eq_true rfl⟩ ⟨Nat.le_of_ble_eq_true rfl, Nat.le_of_ble_eq_true rfl⟩ ⟨rfl, Or.inr (⟨ek, rfl⟩)⟩
    · rw [zb_f c4] at e4; subst e4
      refine v_if_ne (tgt := 26) C dX4_room_12 (by decide) (fun c17 => absurd c17 (by decide)) (fun c17 => ?_)
      have ek : (kRoom s (nI j2) q) = 1 := by simp [kRoom, inN, c1, c4]
      exact v_throwSW C (TH_37 (i := 288) (tx := "no such test or quarter") (by decide)) hto dX4_room_15 dX4_room_18 dX4_room_19 dX4_room_22 dX4_room_25 (Nat.le_of_ble_eq_true rfl) (Nat.le_of_ble_eq_true rfl) ⟨Nat.le_of_ble_eq_true rfl, Nat.le_of_ble_eq_true rfl⟩ ⟨Nat.le_of_ble_eq_true rfl, Nat.le_of_ble_eq_true rfl⟩ ⟨rfl, Or.inl ⟨ek, rfl⟩⟩
  · rw [zb_f c1] at e1; subst e1
    refine v_if_eq (tgt := 15) C dX4_room_5 (by decide) (fun c19 => ?_) (fun c19 => absurd c19 (by decide))
    have ek : (kRoom s r q) = 1 := by simp [kRoom, inN, c1]
    exact v_throwSW C (TH_37 (i := 288) (tx := "no such test or quarter") (by decide)) hto dX4_room_15 dX4_room_18 dX4_room_19 dX4_room_22 dX4_room_25 (Nat.le_of_ble_eq_true rfl) (Nat.le_of_ble_eq_true rfl) ⟨Nat.le_of_ble_eq_true rfl, Nat.le_of_ble_eq_true rfl⟩ ⟨Nat.le_of_ble_eq_true rfl, Nat.le_of_ble_eq_true rfl⟩ ⟨rfl, Or.inl ⟨ek, rfl⟩⟩
set_option maxHeartbeats 4000000 in
set_option maxRecDepth 100000 in
theorem c_X4_broken (l : Launch) (hl : l.stackTraces = false) (G : zG) (x : Nat) (g : XGh) (s : ZS) (h : zH) (hi : XI G h g x s) (hw : WFs s) : zMet eI l yX4_broken cX4_broken 4 (some .int) 15 0 0 G [.ref x] h (fun r h2 => r = nI (vBroken s (rN s)) ∧ h = h2) := by
  refine con_of hl RX4 rfl (by decide +kernel) [(0, .ref x)] rfl (Nat.le_of_ble_eq_true rfl) ?_
  intro zp ze zs zm zargs zbelow zmeth zc C hr hin Q hQ
  obtain ⟨⟨hO, hA, ⟨hL0, hL1, hL2, hL3⟩, hS, hN, hT, hR, hB⟩, hV⟩ := id hi
  obtain ⟨mo0, hmo0⟩ := hL0.1.2.1
  obtain ⟨mo1, hmo1⟩ := hL1.1.2.1
  obtain ⟨mo2, hmo2⟩ := hL2.1.2.1
  obtain ⟨mo3, hmo3⟩ := hL3.1.2.1
  have hw17 : rN s ≤ 6 := hw.2.2.2.2.1.1
  refine v_iconst (v := 0) C dX4_broken_0 (by decide) ?_
  refine v_istore_n C [(1, .int 0), (0, .ref x)] rfl (by decide) dX4_broken_1 rfl ?_
  refine v_iconst (v := 0) C dX4_broken_2 (by decide) ?_
  refine v_istore_n C [(2, .int 0), (1, .int 0), (0, .ref x)] rfl (by decide) dX4_broken_3 rfl ?_
  have L1 : ∀ (d : Nat) (n : Nat), (n ≤ rN s) → (rN s + 1 ≤ n + d) → V zp l ze (rmm 15 0 0) zs zm zargs zbelow zmeth zc G 4 Q h (0) (0) 4 [(1, .int (nI (vBroken s n))), (2, .int (nI n)), (0, .ref x)] [] := by
    intro d
    induction d with
    | zero =>
      intro n hn hd
      exact absurd hd (by omega)
    | succ d ih1 =>
      intro n hn hd
      refine v_iload_n C 1 rfl dX4_broken_4 rfl ?_
      refine v_aload_n C 2 rfl dX4_broken_5 rfl ?_
      refine v_get (v := .ref (qA g 14 2)) C F_X4_24 hO.1 rfl dX4_broken_6 ?_
      refine v_callV (rest := [.int (nI n)]) C (c_Jx4a65c_size_8abf5 l hl G (qA g 14 2) (qA g 15 2) ((List.range (rN s)).map (qA g 6)) h hL2.1) K_X4_60 hmo2 rfl rfl (Nat.le_of_ble_eq_true rfl) ⟨Nat.le_of_ble_eq_true rfl, Nat.le_of_ble_eq_true rfl⟩ ⟨Nat.le_of_ble_eq_true rfl, Nat.le_of_ble_eq_true rfl⟩ dX4_broken_9 (fun i2 h2 q2 => ?_)
      obtain ⟨e2, rfl⟩ := q2; subst e2
      refine v_eqi (congrArg nI mr_len) ?_
      refine v_icmp_ge (tgt := 58) C dX4_broken_12 (by decide) (fun c3 => ?_) (fun c3 => ?_)
      · have c3 := (nn_ge (a := n) (b := (rN s)) (by omega) (by omega)).mp c3
        refine v_iload_n C 0 rfl dX4_broken_58 rfl ?_
        exact v_iret C hQ hr rfl (Nat.le_of_ble_eq_true rfl) (Nat.le_of_ble_eq_true rfl) dX4_broken_59 ⟨(by have hz : n = rN s := (by omega); rw [hz]), rfl⟩
      · have c3 := (nn_ge_f (a := n) (b := (rN s)) (by omega) (by omega)).mp c3
        refine v_iconst (v := 0) C dX4_broken_15 (by decide) ?_
        refine v_istore_n C [(3, .int 0), (1, .int (nI (vBroken s n))), (2, .int (nI n)), (0, .ref x)] rfl (by decide) dX4_broken_16 rfl ?_
        have L4 : ∀ (d : Nat) (m : Nat), (m ≤ 20) → (21 ≤ m + d) → V zp l ze (rmm 15 0 0) zs zm zargs zbelow zmeth zc G 4 Q h (0 + 0) (0 + 0) 17 [(1, .int (nI (vBroken s n + cnt (fun q => decide (vState s n q = 4)) m))), (3, .int (nI m)), (2, .int (nI n)), (0, .ref x)] [] := by
          intro d
          induction d with
          | zero =>
            intro m hm hd
            exact absurd hd (by omega)
          | succ d ih4 =>
            intro m hm hd
            refine v_iload_n C 1 rfl dX4_broken_17 rfl ?_
            refine v_bipush (v := 20) C dX4_broken_18 (by decide) ?_
            refine v_icmp_ge (tgt := 52) C dX4_broken_20 (by decide) (fun c5 => ?_) (fun c5 => ?_)
            · have c5 := (nk_ge (a := m) 20 (by decide) (by omega) (by decide)).mp c5
              refine v_iinc C 2 [(2, .int (nI (n + 1))), (1, .int (nI (vBroken s n + cnt (fun q => decide (vState s n q = 4)) m))), (3, .int (nI m)), (0, .ref x)] rfl (nI_inc n 1 (by decide)) rfl (by decide) dX4_broken_52 ?_
              refine v_goto (tgt := 4) C dX4_broken_55 (by decide) ?_
              refine v_lvp [1, 0, 3] rfl ?_
              have hm20 : m = 20 := by omega
              rw [hm20, show vBroken s n + cnt (fun q => decide (vState s n q = 4)) 20 = vBroken s (n + 1) from rfl]
              exact ih1 (n + 1) (by omega) (by omega)
            · have c5 := (nk_ge_f (a := m) 20 (by decide) (by omega) (by decide)).mp c5
              obtain ⟨r6, r7, r8, r9, t6, ⟨f7, t7, q7⟩, ⟨f8, t8, q8⟩, f9, t9, q9⟩ := hR n (by omega)
              obtain ⟨hwT, hwB, hwW, hwL⟩ := hw.2.2.2.2.1.2.1 n (by omega)
              refine v_aload_n C 3 rfl dX4_broken_23 rfl ?_
              refine v_aload_n C 3 rfl dX4_broken_24 rfl ?_
              refine v_get (v := .ref (qA g 14 2)) C F_X4_24 hO.1 rfl dX4_broken_25 ?_
              refine v_iload_n C 2 rfl dX4_broken_28 rfl ?_
              refine v_callV (rest := [.ref x]) C (c_Jx4a65c_get_915e3 l hl G (qA g 14 2) (qA g 15 2) ((List.range (rN s)).map (qA g 6)) n h hL2.1 (by rw [mr_len]; omega)) K_X4_99 hmo2 rfl rfl (Nat.le_of_ble_eq_true rfl) ⟨Nat.le_of_ble_eq_true rfl, Nat.le_of_ble_eq_true rfl⟩ ⟨Nat.le_of_ble_eq_true rfl, Nat.le_of_ble_eq_true rfl⟩ dX4_broken_29 (fun i7 h7 q7 => ?_)
              obtain ⟨e7, rfl⟩ := q7; rw [mr_get (show n < (rN s) by omega)] at e7; subst e7
              refine v_chk C CA_X4_280 t6 dX4_broken_32 ?_
              refine v_iload_n C 1 rfl dX4_broken_35 rfl ?_
              refine v_callV (rest := []) C (c_X4_stateIn l hl G x n m g s h hi hw (by omega) (by omega)) K_X4_327 hO.1 rfl rfl (Nat.le_of_ble_eq_true rfl) ⟨Nat.le_of_ble_eq_true rfl, Nat.le_of_ble_eq_true rfl⟩ ⟨Nat.le_of_ble_eq_true rfl, Nat.le_of_ble_eq_true rfl⟩ dX4_broken_36 (fun i8 h8 q8 => ?_)
              obtain ⟨e8, rfl⟩ := q8; subst e8
              have hvs := vState_le s n m
              refine v_iconst (v := 4) C dX4_broken_39 (by decide) ?_
              refine v_icmp_ne (tgt := 46) C dX4_broken_40 (by decide) (fun c9 => ?_) (fun c9 => ?_)
              · have c9 := (nk_ne (a := (vState s n m)) 4 (by decide) (by omega) (by decide)).mp c9
                refine v_iinc C 1 [(3, .int (nI (m + 1))), (1, .int (nI (vBroken s n + cnt (fun q => decide (vState s n q = 4)) m))), (2, .int (nI n)), (0, .ref x)] rfl (nI_inc m 1 (by decide)) rfl (by decide) dX4_broken_46 ?_
                refine v_goto (tgt := 17) C dX4_broken_49 (by decide) ?_
                refine v_lvp [1, 0, 2, 3] rfl ?_
                rw [show cnt (fun q => decide (vState s n q = 4)) m = cnt (fun q => decide (vState s n q = 4)) (m + 1) from (show _ = cnt _ m + _ by rw [if_neg (fun z => absurd (of_decide_eq_true z) (by omega))]; rfl)]
                exact ih4 (m + 1) (by omega) (by omega)
              · have c9 := (nk_ne_f (a := (vState s n m)) 4 (by decide) (by omega) (by decide)).mp c9
                refine v_iinc C 0 [(1, .int (nI ((vBroken s n + cnt (fun q => decide (vState s n q = 4)) m) + 1))), (3, .int (nI m)), (2, .int (nI n)), (0, .ref x)] rfl (nI_inc (vBroken s n + cnt (fun q => decide (vState s n q = 4)) m) 1 (by decide)) rfl (by decide) dX4_broken_43 ?_
                refine v_iinc C 1 [(3, .int (nI (m + 1))), (1, .int (nI ((vBroken s n + cnt (fun q => decide (vState s n q = 4)) m) + 1))), (2, .int (nI n)), (0, .ref x)] rfl (nI_inc m 1 (by decide)) rfl (by decide) dX4_broken_46 ?_
                refine v_goto (tgt := 17) C dX4_broken_49 (by decide) ?_
                refine v_lvp [1, 0, 2, 3] rfl ?_
                rw [show vBroken s n + cnt (fun q => decide (vState s n q = 4)) m + 1 = vBroken s n + cnt (fun q => decide (vState s n q = 4)) (m + 1) from congrArg (vBroken s n + ·) (show cnt (fun q => decide (vState s n q = 4)) m + 1 = _ from (show _ = cnt _ m + _ by rw [if_pos (decide_eq_true (by omega))]))]
                exact ih4 (m + 1) (by omega) (by omega)
        refine v_lvp [1, 0, 2, 3] rfl ?_
        exact L4 21 0 (by decide) (by decide)
  refine v_lvp [1, 0, 2] rfl ?_
  exact L1 (rN s + 1) 0 (Nat.zero_le _) (by omega)
set_option maxHeartbeats 4000000 in
set_option maxRecDepth 100000 in
theorem c_X4_size (l : Launch) (hl : l.stackTraces = false) (G : zG) (x : Nat) (g : XGh) (s : ZS) (b q : Int32) (h : zH) (hi : XI G h g x s) (hw : WFs s)  : zMetX eL l yX4_size cX4_size 3 (some .long) 15 10 200 G [.ref x, .int b, .int q] h (fun res h2 => (kIsBQ s b q) = 0 ∧ res = bSize s (cl b) (cl q) ∧ XQ G h h2 g x s) (fun E h2 => h2 = h ∧ (((kIsBQ s b q) = 1 ∧ E = "java/lang/IndexOutOfBoundsException"))) := by
  refine con_ofX hl RX4 rfl (by decide +kernel) [(0, .ref x), (1, .int b), (2, .int q)] rfl (Nat.le_of_ble_eq_true rfl) ?_
  intro zp ze zs zm zargs zbelow zmeth zc C hr hin hto hQ
  obtain ⟨⟨hO, hA, ⟨hL0, hL1, hL2, hL3⟩, hS, hN, hT, hR, hB⟩, hV⟩ := id hi
  obtain ⟨mo0, hmo0⟩ := hL0.1.2.1
  obtain ⟨mo1, hmo1⟩ := hL1.1.2.1
  obtain ⟨mo2, hmo2⟩ := hL2.1.2.1
  obtain ⟨mo3, hmo3⟩ := hL3.1.2.1
  obtain ⟨fo, to, qo⟩ := hO.2.2.2
  have eS : (oS s).length = (qS g).length := by rw [hS.2, List.length_map]
  have hw2 : (oS s).length ≤ 8 := hw.1
  have hw7 : oN s ≤ 10 := hw.2.2.1.1
  have hw17 : rN s ≤ 6 := hw.2.2.2.2.1.1
  have hw25 : bN s ≤ 6 := hw.2.2.2.2.2.1
  refine v_ge C (fun hg => ?_)
  refine v_aload_n C 0 rfl dX4_size_0 rfl ?_
  refine v_iload_n C 1 rfl dX4_size_1 rfl ?_
  refine v_callV (rest := []) C (c_X4_isBasket l hl G x (qA g 1 0) (qA g 14 0) (qA g 14 1) (qA g 14 2) (qA g 14 3) (qA g 15 3) ((List.range (bN s)).map (qA g 10)) b h hO.1 hL3.1) K_X4_364 hO.1 rfl rfl (Nat.le_of_ble_eq_true rfl) ⟨Nat.le_of_ble_eq_true rfl, Nat.le_of_ble_eq_true rfl⟩ ⟨Nat.le_of_ble_eq_true rfl, Nat.le_of_ble_eq_true rfl⟩ dX4_size_2 (fun i1 h1 q1 => ?_)
  obtain ⟨e1, rfl⟩ := q1; rw [mr_len] at e1
  by_cases c1 : inN b (bN s)
  · rw [zb_t c1] at e1; subst e1
    obtain ⟨j2, hj2, en2⟩ := inN.nat c1 (by omega)
    subst en2
    have eCb : cl (nI j2) = j2 := cl_nI (by omega)
    obtain ⟨rb, tb⟩ := hB j2 (by omega)
    obtain ⟨hbT, hbF, hbP⟩ := hw.2.2.2.2.2.2.1 j2 (by omega)
    refine v_if_eq (tgt := 15) C dX4_size_5 (by decide) (fun c3 => absurd c3 (by decide)) (fun c3 => ?_)
    refine v_iload_n C 2 rfl dX4_size_8 rfl ?_
    refine v_callS (rest := []) C (c_X4_isQuarter l hl G q h) S_X4_34 rfl rfl (Nat.le_of_ble_eq_true rfl) ⟨Nat.le_of_ble_eq_true rfl, Nat.le_of_ble_eq_true rfl⟩ ⟨Nat.le_of_ble_eq_true rfl, Nat.le_of_ble_eq_true rfl⟩ dX4_size_9 (fun i4 h4 q4 => ?_)
    obtain ⟨e4, rfl⟩ := q4
    by_cases c4 : inN q 20
    · rw [zb_t c4] at e4; subst e4
      obtain ⟨j5, hj5, en5⟩ := inN.nat c4 (by omega)
      subst en5
      have eCq : cl (nI j5) = j5 := cl_nI (by omega)
      refine v_if_ne (tgt := 26) C dX4_size_12 (by decide) (fun c6 => ?_) (fun c6 => absurd c6 (by decide))
      refine v_aload_n C 0 rfl dX4_size_26 rfl ?_
      refine v_get (v := .ref (qA g 14 3)) C F_X4_27 hO.1 rfl dX4_size_27 ?_
      refine v_iload_n C 1 rfl dX4_size_30 rfl ?_
      refine v_callV (rest := []) C (c_Jx4a65c_get_915e3 l hl G (qA g 14 3) (qA g 15 3) ((List.range (bN s)).map (qA g 10)) j2 h hL3.1 (by rw [mr_len]; omega)) K_X4_99 hmo3 rfl rfl (Nat.le_of_ble_eq_true rfl) ⟨Nat.le_of_ble_eq_true rfl, Nat.le_of_ble_eq_true rfl⟩ ⟨Nat.le_of_ble_eq_true rfl, Nat.le_of_ble_eq_true rfl⟩ dX4_size_31 (fun i7 h7 q7 => ?_)
      obtain ⟨e7, rfl⟩ := q7; rw [mr_get (show j2 < (bN s) by omega)] at e7; subst e7
      refine v_chk C CA_X4_359 tb dX4_size_34 ?_
      refine v_iload_n C 2 rfl dX4_size_37 rfl ?_
      refine v_callS (rest := []) C (c_X4_sizeIn l hl G x j2 j5 g s h hi hw (by omega) (by omega)) S_X4_369 rfl rfl (Nat.le_of_ble_eq_true rfl) ⟨Nat.le_of_ble_eq_true rfl, Nat.le_of_ble_eq_true rfl⟩ ⟨Nat.le_of_ble_eq_true rfl, Nat.le_of_ble_eq_true rfl⟩ dX4_size_38 (fun l8 h8 q8 => ?_)
      obtain ⟨e8, rfl⟩ := q8; subst e8
      have ek : (kIsBQ s (nI j2) (nI j5)) = 0 := by simp [kIsBQ, inN, wth, c1, c4]
      exact v_lret C hQ hr (Nat.le_of_ble_eq_true rfl) (Nat.le_of_ble_eq_true rfl) dX4_size_41 ⟨ek, (by rw [eCb, eCq]), (XQ.rf hi)⟩
    · rw [zb_f c4] at e4; subst e4
      refine v_if_ne (tgt := 26) C dX4_size_12 (by decide) (fun c9 => absurd c9 (by decide)) (fun c9 => ?_)
      have ek : (kIsBQ s (nI j2) q) = 1 := by simp [kIsBQ, inN, wth, c1, c4]
      exact v_throwSW C (TH_37 (i := 367) (tx := "no such basket or quarter") (by decide)) hto dX4_size_15 dX4_size_18 dX4_size_19 dX4_size_22 dX4_size_25 (Nat.le_of_ble_eq_true rfl) (Nat.le_of_ble_eq_true rfl) ⟨Nat.le_of_ble_eq_true rfl, Nat.le_of_ble_eq_true rfl⟩ ⟨Nat.le_of_ble_eq_true rfl, Nat.le_of_ble_eq_true rfl⟩ ⟨rfl, ⟨ek, rfl⟩⟩
  · rw [zb_f c1] at e1; subst e1
    refine v_if_eq (tgt := 15) C dX4_size_5 (by decide) (fun c11 => ?_) (fun c11 => absurd c11 (by decide))
    have ek : (kIsBQ s b q) = 1 := by simp [kIsBQ, inN, wth, c1]
    exact v_throwSW C (TH_37 (i := 367) (tx := "no such basket or quarter") (by decide)) hto dX4_size_15 dX4_size_18 dX4_size_19 dX4_size_22 dX4_size_25 (Nat.le_of_ble_eq_true rfl) (Nat.le_of_ble_eq_true rfl) ⟨Nat.le_of_ble_eq_true rfl, Nat.le_of_ble_eq_true rfl⟩ ⟨Nat.le_of_ble_eq_true rfl, Nat.le_of_ble_eq_true rfl⟩ ⟨rfl, ⟨ek, rfl⟩⟩

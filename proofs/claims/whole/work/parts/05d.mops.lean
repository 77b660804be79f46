set_option maxHeartbeats 4000000 in
set_option maxRecDepth 100000 in
theorem c_X5_amount (l : Launch) (hl : l.stackTraces = false) (G : zG) (m : Nat) (ad : Nat → Nat) (ns : Nat → Nat) (na : Nat → Nat → Nat) (ia : Nat → Nat → Int32) (la : Nat → Nat → Int64) (h0 : zH) (s : ZS) (a q v : Int32) (h : zH) (hm : MR G h0 h m ad ns na ia la) (hs : MS s ns na ia la) (hw : WFs s)  : zMet eI l yX5_amount cX5_amount 6 (some .int) 14 0 0 G [.ref m, .int a, .int q, .int v] h (fun r h2 => ((kAmount a q v) = 0 ∧ MO G h0 h2 m ad (nAmount s a q v) 0 ∧ r = oA s (cl a) (cl q)) ∨ ((kAmount a q v) ≠ 0 ∧ MO G h0 h2 m ad s (kAmount a q v))) := by
  refine con_of hl RX5 rfl (by decide +kernel) [(0, .ref m), (1, .int a), (2, .int q), (3, .int v)] rfl (Nat.le_of_ble_eq_true rfl) ?_
  intro zp ze zs zm zargs zbelow zmeth zc C hr hin Q hQ
  refine v_iload_n C 1 rfl dX5_amount_0 rfl ?_
  refine v_callS (rest := []) C (c_X5_isAccount l hl G  a h ) S_X5_96 rfl rfl (Nat.le_of_ble_eq_true rfl) ⟨Nat.le_of_ble_eq_true rfl, Nat.le_of_ble_eq_true rfl⟩ ⟨Nat.le_of_ble_eq_true rfl, Nat.le_of_ble_eq_true rfl⟩ dX5_amount_1 (fun i1 h1 q1 => ?_)
  obtain ⟨e1, rfl⟩ := q1
  by_cases c1 : inN a 6
  · rw [zb_t c1] at e1; subst e1
    obtain ⟨j2, hj2, en2⟩ := inN.nat c1 (by omega)
    subst en2
    refine v_if_eq (tgt := 18) C dX5_amount_4 (by decide) (fun c3 => absurd c3 (by decide)) (fun c3 => ?_)
    refine v_iload_n C 2 rfl dX5_amount_7 rfl ?_
    refine v_callS (rest := []) C (c_X5_isQuarter l hl G  q h ) S_X5_100 rfl rfl (Nat.le_of_ble_eq_true rfl) ⟨Nat.le_of_ble_eq_true rfl, Nat.le_of_ble_eq_true rfl⟩ ⟨Nat.le_of_ble_eq_true rfl, Nat.le_of_ble_eq_true rfl⟩ dX5_amount_8 (fun i4 h4 q4 => ?_)
    obtain ⟨e4, rfl⟩ := q4
    by_cases c4 : inN q 20
    · rw [zb_t c4] at e4; subst e4
      obtain ⟨j5, hj5, en5⟩ := inN.nat c4 (by omega)
      subst en5
      refine v_if_eq (tgt := 18) C dX5_amount_11 (by decide) (fun c6 => absurd c6 (by decide)) (fun c6 => ?_)
      refine v_iconst (v := 1) C dX5_amount_14 (by decide) ?_
      refine v_goto (tgt := 19) C dX5_amount_15 (by decide) ?_
      refine v_istore C [(4, .int 1), (0, .ref m), (1, .int (nI j2)), (2, .int (nI j5)), (3, .int v)] rfl (by decide) dX5_amount_19 ?_
      refine v_aload_n C 1 rfl dX5_amount_21 rfl ?_
      refine v_iload C 0 rfl dX5_amount_22 ?_
      refine v_if_ne (tgt := 31) C dX5_amount_24 (by decide) (fun c7 => ?_) (fun c7 => absurd c7 (by decide))
      refine v_iload_n C 4 rfl dX5_amount_31 rfl ?_
      refine v_ldc C KO_X5_103 dX5_amount_32 ?_
      refine v_ldc C KO_X5_104 dX5_amount_34 ?_
      refine v_callS (rest := [.ref m]) C (c_X5_isIn l hl G  v (-1000000) 1000000 h ) S_X5_89 rfl rfl (Nat.le_of_ble_eq_true rfl) ⟨Nat.le_of_ble_eq_true rfl, Nat.le_of_ble_eq_true rfl⟩ ⟨Nat.le_of_ble_eq_true rfl, Nat.le_of_ble_eq_true rfl⟩ dX5_amount_36 (fun i8 h8 q8 => ?_)
      obtain ⟨e8, rfl⟩ := q8
      by_cases c8 : wth v (-1000000) 1000000
      · rw [zb_t c8] at e8; subst e8
        refine v_if_eq (tgt := 46) C dX5_amount_39 (by decide) (fun c9 => absurd c9 (by decide)) (fun c9 => ?_)
        refine v_iconst (v := 0) C dX5_amount_42 (by decide) ?_
        refine v_goto (tgt := 47) C dX5_amount_43 (by decide) ?_
        refine v_put C (mC ad (upN ns 0 0)) P_X5_85 hm.1 rfl rfl rfl (Nat.le_of_ble_eq_true rfl) dX5_amount_47 (v_nw (fun h10 eh10 => ?_))
        have hm10 := hm.putS 0 0 rfl eh10
        refine v_aload_n C 1 rfl dX5_amount_50 rfl ?_
        refine v_get (v := .int (nI 0)) C F_X5_85 hm10.1 rfl dX5_amount_51 ?_
        refine v_if_le (tgt := 59) C dX5_amount_54 (by decide) (fun c11 => ?_) (fun c11 => absurd c11 (by decide))
        refine v_aload_n C 1 rfl dX5_amount_59 rfl ?_
        refine v_get (v := .ref (ad 1)) C F_X5_7 hm10.1 rfl dX5_amount_60 ?_
        refine v_bipush (v := 20) C dX5_amount_63 (by decide) ?_
        refine v_iload_n C 2 rfl dX5_amount_65 rfl ?_
        refine v_imul C dX5_amount_66 (v_eqi (nI_kml j2 20 (by decide)) ?_)
        refine v_iload_n C 3 rfl dX5_amount_67 rfl ?_
        refine v_iadd C dX5_amount_68 (v_eqi (nI_add (20 * j2) j5) ?_)
        refine v_iald C (hm10.2.2.1 1 rfl) (vpin (show ((20 * j2) + j5) < 120 by omega) (by decide)) dX5_amount_69 (v_eqi (y := (ia 1) ((20 * j2) + j5)) (congrArg (ia 1) (nI_clamp (show ((20 * j2) + j5) < 2 ^ 31 by omega))) ?_)
        refine v_istore C [(5, .int ((ia 1) ((20 * j2) + j5))), (4, .int 1), (0, .ref m), (1, .int (nI j2)), (2, .int (nI j5)), (3, .int v)] rfl (by decide) dX5_amount_70 ?_
        refine v_aload_n C 2 rfl dX5_amount_72 rfl ?_
        refine v_get (v := .ref (ad 1)) C F_X5_7 hm10.1 rfl dX5_amount_73 ?_
        refine v_bipush (v := 20) C dX5_amount_76 (by decide) ?_
        refine v_iload_n C 3 rfl dX5_amount_78 rfl ?_
        refine v_imul C dX5_amount_79 (v_eqi (nI_kml j2 20 (by decide)) ?_)
        refine v_iload_n C 4 rfl dX5_amount_80 rfl ?_
        refine v_iadd C dX5_amount_81 (v_eqi (nI_add (20 * j2) j5) ?_)
        refine v_iload_n C 5 rfl dX5_amount_82 rfl ?_
        refine v_iast C (hm10.2.2.1 1 rfl) (vpin (show ((20 * j2) + j5) < 120 by omega) (by decide)) dX5_amount_83 (v_nw (fun h16 eh16 => ?_))
        have hm16 := hm10.putI2 (k := 1) rfl (g := (ia 1)) (i := ((20 * j2) + j5)) (v := v) (by omega) eh16
        refine v_iload C 0 rfl dX5_amount_84 ?_
        have ek : (kAmount (nI j2) (nI j5) v) = 0 := by simp [kAmount, inN, wth, c1, c4, c8]
        exact v_iret C hQ hr rfl (Nat.le_of_ble_eq_true rfl) (Nat.le_of_ble_eq_true rfl) dX5_amount_86 (Or.inl ⟨ek, ⟨_, _, _, _, hm16, (by show MSa (up3 (oA s) (cl (nI j2)) (cl (nI j5)) v) _ ∧ _; rw [cl_nI (by omega), cl_nI (by omega)]; exact ⟨hs.1.put (by omega), hs.2⟩), rfl⟩, (by rw [cl_nI (by omega), cl_nI (by omega)]; exact hs.1 _ _ (by omega) (by omega))⟩)
      · rw [zb_f c8] at e8; subst e8
        refine v_if_eq (tgt := 46) C dX5_amount_39 (by decide) (fun c17 => ?_) (fun c17 => absurd c17 (by decide))
        refine v_iconst (v := 2) C dX5_amount_46 (by decide) ?_
        refine v_put C (mC ad (upN ns 0 2)) P_X5_85 hm.1 rfl rfl rfl (Nat.le_of_ble_eq_true rfl) dX5_amount_47 (v_nw (fun h18 eh18 => ?_))
        have hm18 := hm.putS 0 2 rfl eh18
        refine v_aload_n C 1 rfl dX5_amount_50 rfl ?_
        refine v_get (v := .int (nI 2)) C F_X5_85 hm18.1 rfl dX5_amount_51 ?_
        refine v_if_le (tgt := 59) C dX5_amount_54 (by decide) (fun c19 => absurd c19 (by decide)) (fun c19 => ?_)
        refine v_iconst (v := 0) C dX5_amount_57 (by decide) ?_
        have ek : (kAmount (nI j2) (nI j5) v) = 2 := by simp [kAmount, inN, wth, c1, c4, c8]
        exact v_iret C hQ hr rfl (Nat.le_of_ble_eq_true rfl) (Nat.le_of_ble_eq_true rfl) dX5_amount_58 (Or.inr ⟨(by rw [ek]; decide), (by rw [ek]; exact ⟨_, _, _, _, hm18, hs.thr _, rfl⟩)⟩)
    · rw [zb_f c4] at e4; subst e4
      refine v_if_eq (tgt := 18) C dX5_amount_11 (by decide) (fun c20 => ?_) (fun c20 => absurd c20 (by decide))
      refine v_iconst (v := 0) C dX5_amount_18 (by decide) ?_
      refine v_istore C [(4, .int 0), (0, .ref m), (1, .int (nI j2)), (2, .int q), (3, .int v)] rfl (by decide) dX5_amount_19 ?_
      refine v_aload_n C 1 rfl dX5_amount_21 rfl ?_
      refine v_iload C 0 rfl dX5_amount_22 ?_
      refine v_if_ne (tgt := 31) C dX5_amount_24 (by decide) (fun c21 => absurd c21 (by decide)) (fun c21 => ?_)
      refine v_iconst (v := 1) C dX5_amount_27 (by decide) ?_
      refine v_goto (tgt := 47) C dX5_amount_28 (by decide) ?_
      refine v_put C (mC ad (upN ns 0 1)) P_X5_85 hm.1 rfl rfl rfl (Nat.le_of_ble_eq_true rfl) dX5_amount_47 (v_nw (fun h22 eh22 => ?_))
      have hm22 := hm.putS 0 1 rfl eh22
      refine v_aload_n C 1 rfl dX5_amount_50 rfl ?_
      refine v_get (v := .int (nI 1)) C F_X5_85 hm22.1 rfl dX5_amount_51 ?_
      refine v_if_le (tgt := 59) C dX5_amount_54 (by decide) (fun c23 => absurd c23 (by decide)) (fun c23 => ?_)
      refine v_iconst (v := 0) C dX5_amount_57 (by decide) ?_
      have ek : (kAmount (nI j2) q v) = 1 := by simp [kAmount, inN, wth, c1, c4]
      exact v_iret C hQ hr rfl (Nat.le_of_ble_eq_true rfl) (Nat.le_of_ble_eq_true rfl) dX5_amount_58 (Or.inr ⟨(by rw [ek]; decide), (by rw [ek]; exact ⟨_, _, _, _, hm22, hs.thr _, rfl⟩)⟩)
  · rw [zb_f c1] at e1; subst e1
    refine v_if_eq (tgt := 18) C dX5_amount_4 (by decide) (fun c24 => ?_) (fun c24 => absurd c24 (by decide))
    refine v_iconst (v := 0) C dX5_amount_18 (by decide) ?_
    refine v_istore C [(4, .int 0), (0, .ref m), (1, .int a), (2, .int q), (3, .int v)] rfl (by decide) dX5_amount_19 ?_
    refine v_aload_n C 1 rfl dX5_amount_21 rfl ?_
    refine v_iload C 0 rfl dX5_amount_22 ?_
    refine v_if_ne (tgt := 31) C dX5_amount_24 (by decide) (fun c25 => absurd c25 (by decide)) (fun c25 => ?_)
    refine v_iconst (v := 1) C dX5_amount_27 (by decide) ?_
    refine v_goto (tgt := 47) C dX5_amount_28 (by decide) ?_
    refine v_put C (mC ad (upN ns 0 1)) P_X5_85 hm.1 rfl rfl rfl (Nat.le_of_ble_eq_true rfl) dX5_amount_47 (v_nw (fun h26 eh26 => ?_))
    have hm26 := hm.putS 0 1 rfl eh26
    refine v_aload_n C 1 rfl dX5_amount_50 rfl ?_
    refine v_get (v := .int (nI 1)) C F_X5_85 hm26.1 rfl dX5_amount_51 ?_
    refine v_if_le (tgt := 59) C dX5_amount_54 (by decide) (fun c27 => absurd c27 (by decide)) (fun c27 => ?_)
    refine v_iconst (v := 0) C dX5_amount_57 (by decide) ?_
    have ek : (kAmount a q v) = 1 := by simp [kAmount, inN, wth, c1]
    exact v_iret C hQ hr rfl (Nat.le_of_ble_eq_true rfl) (Nat.le_of_ble_eq_true rfl) dX5_amount_58 (Or.inr ⟨(by rw [ek]; decide), (by rw [ek]; exact ⟨_, _, _, _, hm26, hs.thr _, rfl⟩)⟩)
set_option maxHeartbeats 4000000 in
set_option maxRecDepth 100000 in
theorem c_X5_adds (l : Launch) (hl : l.stackTraces = false) (G : zG) (m : Nat) (ad : Nat → Nat) (ns : Nat → Nat) (na : Nat → Nat → Nat) (ia : Nat → Nat → Int32) (la : Nat → Nat → Int64) (h0 : zH) (p k n : Nat) (h : zH) (hm : MR G h0 h m ad ns na ia la) (hp : p < 8) (hc : na 3 p < 64) : zMet eV l yX5_adds cX5_adds 4 none 12 0 0 G [.ref m, .int (nI p), .int (nI k), .int (nI n)] h (fun _ h2 => MR G h0 h2 m ad ns (adN na p k n) ia la) := by
  refine con_of hl RX5 rfl (by decide +kernel) [(0, .ref m), (1, .int (nI p)), (2, .int (nI k)), (3, .int (nI n))] rfl (Nat.le_of_ble_eq_true rfl) ?_
  intro zp ze zs zm zargs zbelow zmeth zc C hr hin Q hQ
  refine v_aload_n C 0 rfl dX5_adds_0 rfl ?_
  refine v_get (v := .ref (ad 5)) C F_X5_19 hm.1 rfl dX5_adds_1 ?_
  refine v_bipush (v := 64) C dX5_adds_4 (by decide) ?_
  refine v_iload_n C 1 rfl dX5_adds_6 rfl ?_
  refine v_imul C dX5_adds_7 (v_eqi (nI_kml p 64 (by decide)) ?_)
  refine v_aload_n C 0 rfl dX5_adds_8 rfl ?_
  refine v_get (v := .ref (ad 3)) C F_X5_13 hm.1 rfl dX5_adds_9 ?_
  refine v_iload_n C 1 rfl dX5_adds_12 rfl ?_
  refine v_iald C (hm.2.1 3 rfl) (vpin (show p < 8 by omega) (by decide)) dX5_adds_13 (v_eqi (y := nI ((na 3) p)) (congrArg (fun j => nI ((na 3) j)) (nI_clamp (show p < 2 ^ 31 by omega))) ?_)
  refine v_iadd C dX5_adds_14 (v_eqi (nI_add (64 * p) ((na 3) p)) ?_)
  refine v_iload_n C 2 rfl dX5_adds_15 rfl ?_
  refine v_iast C (hm.2.1 5 rfl) (vpin (show ((64 * p) + ((na 3) p)) < 512 by omega) (by decide)) dX5_adds_16 (v_nw (fun h3 eh3 => ?_))
  have hm3 := hm.putN (k := 5) rfl (g := (na 5)) (i := ((64 * p) + ((na 3) p))) (v := k) (by omega) eh3
  refine v_aload_n C 0 rfl dX5_adds_17 rfl ?_
  refine v_get (v := .ref (ad 6)) C F_X5_22 hm3.1 rfl dX5_adds_18 ?_
  refine v_bipush (v := 64) C dX5_adds_21 (by decide) ?_
  refine v_iload_n C 1 rfl dX5_adds_23 rfl ?_
  refine v_imul C dX5_adds_24 (v_eqi (nI_kml p 64 (by decide)) ?_)
  refine v_aload_n C 0 rfl dX5_adds_25 rfl ?_
  refine v_get (v := .ref (ad 3)) C F_X5_13 hm3.1 rfl dX5_adds_26 ?_
  refine v_iload_n C 1 rfl dX5_adds_29 rfl ?_
  refine v_iald C (hm3.2.1 3 rfl) (vpin (show p < 8 by omega) (by decide)) dX5_adds_30 (v_eqi (y := nI ((na 3) p)) (congrArg (fun j => nI ((na 3) j)) (nI_clamp (show p < 2 ^ 31 by omega))) ?_)
  refine v_iadd C dX5_adds_31 (v_eqi (nI_add (64 * p) ((na 3) p)) ?_)
  refine v_iload_n C 3 rfl dX5_adds_32 rfl ?_
  refine v_iast C (hm3.2.1 6 rfl) (vpin (show ((64 * p) + ((na 3) p)) < 512 by omega) (by decide)) dX5_adds_33 (v_nw (fun h6 eh6 => ?_))
  have hm6 := hm3.putN (k := 6) rfl (g := (na 6)) (i := ((64 * p) + ((na 3) p))) (v := n) (by omega) eh6
  refine v_aload_n C 0 rfl dX5_adds_34 rfl ?_
  refine v_get (v := .ref (ad 3)) C F_X5_13 hm6.1 rfl dX5_adds_35 ?_
  refine v_iload_n C 1 rfl dX5_adds_38 rfl ?_
  refine v_dup2_11 C dX5_adds_39 rfl rfl ?_
  refine v_iald C (hm6.2.1 3 rfl) (vpin (show p < 8 by omega) (by decide)) dX5_adds_40 (v_eqi (y := nI ((na 3) p)) (congrArg (fun j => nI ((na 3) j)) (nI_clamp (show p < 2 ^ 31 by omega))) ?_)
  refine v_iconst (v := 1) C dX5_adds_41 (by decide) ?_
  refine v_iadd C dX5_adds_42 (v_eqi (nI_adk ((na 3) p) 1 (by decide)) ?_)
  refine v_iast C (hm6.2.1 3 rfl) (vpin (show p < 8 by omega) (by decide)) dX5_adds_43 (v_nw (fun h8 eh8 => ?_))
  have hm8 := hm6.putN (k := 3) rfl (g := (na 3)) (i := p) (v := (((na 3) p) + 1)) (by omega) eh8
  exact v_vret C hQ hr (Nat.le_of_ble_eq_true rfl) (Nat.le_of_ble_eq_true rfl) dX5_adds_44 hm8
set_option maxHeartbeats 4000000 in
set_option maxRecDepth 100000 in
theorem c_X5_pushes (l : Launch) (hl : l.stackTraces = false) (G : zG) (m : Nat) (ad : Nat → Nat) (ns : Nat → Nat) (na : Nat → Nat → Nat) (ia : Nat → Nat → Int32) (la : Nat → Nat → Int64) (h0 : zH) (k n lv : Nat) (h : zH) (hm : MR G h0 h m ad ns na ia la) (hp : ns 2 < 8) : zMet eI l yX5_pushes cX5_pushes 4 (some .int) 13 0 0 G [.ref m, .int (nI k), .int (nI n), .int (nI lv)] h (fun r h2 => r = nI (ns 2 + 1) ∧ MR G h0 h2 m ad (upN ns 2 (ns 2 + 1)) (puN na (ns 2) k n lv) ia la) := by
  refine con_of hl RX5 rfl (by decide +kernel) [(0, .ref m), (1, .int (nI k)), (2, .int (nI n)), (3, .int (nI lv))] rfl (Nat.le_of_ble_eq_true rfl) ?_
  intro zp ze zs zm zargs zbelow zmeth zc C hr hin Q hQ
  refine v_aload_n C 0 rfl dX5_pushes_0 rfl ?_
  refine v_get (v := .ref (ad 3)) C F_X5_13 hm.1 rfl dX5_pushes_1 ?_
  refine v_aload_n C 0 rfl dX5_pushes_4 rfl ?_
  refine v_get (v := .int (nI (ns 2))) C F_X5_105 hm.1 rfl dX5_pushes_5 ?_
  refine v_iconst (v := 0) C dX5_pushes_8 (by decide) ?_
  refine v_iast C (hm.2.1 3 rfl) (vpin (show (ns 2) < 8 by omega) (by decide)) dX5_pushes_9 (v_nw (fun h1 eh1 => ?_))
  have hm1 := hm.putN (k := 3) rfl (g := (na 3)) (i := (ns 2)) (v := 0) (by omega) eh1
  refine v_aload_n C 0 rfl dX5_pushes_10 rfl ?_
  refine v_get (v := .ref (ad 4)) C F_X5_16 hm1.1 rfl dX5_pushes_11 ?_
  refine v_aload_n C 0 rfl dX5_pushes_14 rfl ?_
  refine v_get (v := .int (nI (ns 2))) C F_X5_105 hm1.1 rfl dX5_pushes_15 ?_
  refine v_iload_n C 3 rfl dX5_pushes_18 rfl ?_
  refine v_iast C (hm1.2.1 4 rfl) (vpin (show (ns 2) < 8 by omega) (by decide)) dX5_pushes_19 (v_nw (fun h2 eh2 => ?_))
  have hm2 := hm1.putN (k := 4) rfl (g := (na 4)) (i := (ns 2)) (v := lv) (by omega) eh2
  refine v_aload_n C 0 rfl dX5_pushes_20 rfl ?_
  refine v_aload_n C 0 rfl dX5_pushes_21 rfl ?_
  refine v_get (v := .int (nI (ns 2))) C F_X5_105 hm2.1 rfl dX5_pushes_22 ?_
  refine v_iload_n C 1 rfl dX5_pushes_25 rfl ?_
  refine v_iload_n C 2 rfl dX5_pushes_26 rfl ?_
  refine v_callV (rest := []) C (c_X5_adds l hl G m ad ns (up2 (up2 na 3 (upN (na 3) (ns 2) 0)) 4 (upN (na 4) (ns 2) lv)) ia la h0 (ns 2) k n h2 hm2 (by omega) (by show upN (na 3) (ns 2) 0 (ns 2) < 64; rw [upN_s]; decide)) K_X5_108 hm2.1 rfl rfl (Nat.le_of_ble_eq_true rfl) ⟨Nat.le_of_ble_eq_true rfl, Nat.le_of_ble_eq_true rfl⟩ ⟨Nat.le_of_ble_eq_true rfl, Nat.le_of_ble_eq_true rfl⟩ dX5_pushes_27 (fun _ h3 hm3 => ?_)
  refine v_aload_n C 0 rfl dX5_pushes_30 rfl ?_
  refine v_dup C dX5_pushes_31 rfl ?_
  refine v_get (v := .int (nI (ns 2))) C F_X5_105 hm3.1 rfl dX5_pushes_32 ?_
  refine v_iconst (v := 1) C dX5_pushes_35 (by decide) ?_
  refine v_iadd C dX5_pushes_36 (v_eqi (nI_adk (ns 2) 1 (by decide)) ?_)
  refine v_put C (mC ad (upN ns 2 ((ns 2) + 1))) P_X5_105 hm3.1 rfl rfl rfl (Nat.le_of_ble_eq_true rfl) dX5_pushes_37 (v_nw (fun h5 eh5 => ?_))
  have hm5 := hm3.putS 2 ((ns 2) + 1) rfl eh5
  refine v_aload_n C 0 rfl dX5_pushes_40 rfl ?_
  refine v_get (v := .int (nI ((ns 2) + 1))) C F_X5_105 hm5.1 rfl dX5_pushes_41 ?_
  exact v_iret C hQ hr rfl (Nat.le_of_ble_eq_true rfl) (Nat.le_of_ble_eq_true rfl) dX5_pushes_44 ⟨rfl, hm5⟩
theorem wth_nat {x y : Int32} {n : Nat} (h : wth x 0 y) (hy : y = nI n) (hn : n + 1 < 2 ^ 31) : ∃ j, j ≤ n ∧ x = nI j := i32_inle hn (wth_iff.mp h).1 (by rw [← hy]; exact (wth_iff.mp h).2)
set_option maxHeartbeats 4000000 in
set_option maxRecDepth 100000 in
theorem c_X5_account (l : Launch) (hl : l.stackTraces = false) (G : zG) (m : Nat) (ad : Nat → Nat) (ns : Nat → Nat) (na : Nat → Nat → Nat) (ia : Nat → Nat → Int32) (la : Nat → Nat → Int64) (h0 : zH) (s : ZS) (a : Int32) (h : zH) (hm : MR G h0 h m ad ns na ia la) (hs : MS s ns na ia la) (hw : WFs s)  : zMet eI l yX5_account cX5_account 2 (some .int) 14 0 0 G [.ref m, .int a] h (fun r h2 => ((kAccount s a) = 0 ∧ MO G h0 h2 m ad (nPush s ([(4, cl a)], 1)) 0 ∧ r = nI ((oS s).length + 1)) ∨ ((kAccount s a) ≠ 0 ∧ MO G h0 h2 m ad s (kAccount s a))) := by
  refine con_of hl RX5 rfl (by decide +kernel) [(0, .ref m), (1, .int a)] rfl (Nat.le_of_ble_eq_true rfl) ?_
  intro zp ze zs zm zargs zbelow zmeth zc C hr hin Q hQ
  have e2 : (oS s).length = ns 2 := hs.2.1.1.symm
  have e7 : oN s = ns 7 := hs.2.2.1.1.symm
  have e17 : rN s = ns 17 := hs.2.2.2.1.1.symm
  have e25 : bN s = ns 25 := hs.2.2.2.2.1.symm
  have hw2 : ns 2 ≤ 8 := by rw [← e2]; exact hw.1
  have hw7 : ns 7 ≤ 10 := by rw [← e7]; exact hw.2.2.1.1
  have hw17 : ns 17 ≤ 6 := by rw [← e17]; exact hw.2.2.2.2.1.1
  have hw25 : ns 25 ≤ 6 := by rw [← e25]; exact hw.2.2.2.2.2.1
  refine v_aload_n C 0 rfl dX5_account_0 rfl ?_
  refine v_iload_n C 1 rfl dX5_account_1 rfl ?_
  refine v_callS (rest := [.ref m]) C (c_X5_isAccount l hl G  a h ) S_X5_96 rfl rfl (Nat.le_of_ble_eq_true rfl) ⟨Nat.le_of_ble_eq_true rfl, Nat.le_of_ble_eq_true rfl⟩ ⟨Nat.le_of_ble_eq_true rfl, Nat.le_of_ble_eq_true rfl⟩ dX5_account_2 (fun i1 h1 q1 => ?_)
  obtain ⟨e1, rfl⟩ := q1
  by_cases c1 : inN a 6
  · rw [zb_t c1] at e1; subst e1
    obtain ⟨j2, hj2, en2⟩ := inN.nat c1 (by omega)
    subst en2
    refine v_if_ne (tgt := 12) C dX5_account_5 (by decide) (fun c3 => ?_) (fun c3 => absurd c3 (by decide))
    refine v_aload_n C 0 rfl dX5_account_12 rfl ?_
    refine v_get (v := .int (nI (ns 2))) C F_X5_105 hm.1 rfl dX5_account_13 ?_
    refine v_bipush (v := 8) C dX5_account_16 (by decide) ?_
    refine v_icmp_ne (tgt := 25) C dX5_account_18 (by decide) (fun c4 => ?_) (fun c4 => ?_)
    · have c4 := (nk_ne (a := (ns 2)) 8 (by decide) (by omega) (by decide)).mp c4
      refine v_iconst (v := 0) C dX5_account_25 (by decide) ?_
      refine v_put C (mC ad (upN ns 0 0)) P_X5_85 hm.1 rfl rfl rfl (Nat.le_of_ble_eq_true rfl) dX5_account_26 (v_nw (fun h5 eh5 => ?_))
      have hm5 := hm.putS 0 0 rfl eh5
      refine v_aload_n C 0 rfl dX5_account_29 rfl ?_
      refine v_get (v := .int (nI 0)) C F_X5_85 hm5.1 rfl dX5_account_30 ?_
      refine v_if_le (tgt := 40) C dX5_account_33 (by decide) (fun c6 => ?_) (fun c6 => absurd c6 (by decide))
      refine v_aload_n C 0 rfl dX5_account_40 rfl ?_
      refine v_iconst (v := 4) C dX5_account_41 (by decide) ?_
      refine v_iload_n C 1 rfl dX5_account_42 rfl ?_
      refine v_iconst (v := 1) C dX5_account_43 (by decide) ?_
      refine v_callV (rest := []) C (c_X5_pushes l hl G m ad (upN ns 0 0) na ia la h0 4 j2 1 h5 hm5 (show ns 2 < 8 by omega)) K_X5_112 hm5.1 rfl rfl (Nat.le_of_ble_eq_true rfl) ⟨Nat.le_of_ble_eq_true rfl, Nat.le_of_ble_eq_true rfl⟩ ⟨Nat.le_of_ble_eq_true rfl, Nat.le_of_ble_eq_true rfl⟩ dX5_account_44 (fun i7 h7 q7 => ?_)
      obtain ⟨e7, hm7⟩ := q7; subst e7
      have ek : (kAccount s (nI j2)) = 0 := by simp [kAccount, inN, wth, c1, c4, e2]
      exact v_iret C hQ hr rfl (Nat.le_of_ble_eq_true rfl) (Nat.le_of_ble_eq_true rfl) dX5_account_47 (Or.inl ⟨ek, ⟨_, _, _, _, hm7, (by rw [cl_nI (by omega)]; exact hs.push hw rfl rfl rfl rfl), rfl⟩, (by rw [e2]; rfl)⟩)
    · have c4 := (nk_ne_f (a := (ns 2)) 8 (by decide) (by omega) (by decide)).mp c4
      refine v_iconst (v := 2) C dX5_account_21 (by decide) ?_
      refine v_goto (tgt := 26) C dX5_account_22 (by decide) ?_
      refine v_put C (mC ad (upN ns 0 2)) P_X5_85 hm.1 rfl rfl rfl (Nat.le_of_ble_eq_true rfl) dX5_account_26 (v_nw (fun h8 eh8 => ?_))
      have hm8 := hm.putS 0 2 rfl eh8
      refine v_aload_n C 0 rfl dX5_account_29 rfl ?_
      refine v_get (v := .int (nI 2)) C F_X5_85 hm8.1 rfl dX5_account_30 ?_
      refine v_if_le (tgt := 40) C dX5_account_33 (by decide) (fun c9 => absurd c9 (by decide)) (fun c9 => ?_)
      refine v_iconst (v := 0) C dX5_account_36 (by decide) ?_
      refine v_goto (tgt := 47) C dX5_account_37 (by decide) ?_
      have ek : (kAccount s (nI j2)) = 2 := by simp [kAccount, inN, wth, c1, c4, e2]
      exact v_iret C hQ hr rfl (Nat.le_of_ble_eq_true rfl) (Nat.le_of_ble_eq_true rfl) dX5_account_47 (Or.inr ⟨(by rw [ek]; decide), (by rw [ek]; exact ⟨_, _, _, _, hm8, hs.thr _, rfl⟩)⟩)
  · rw [zb_f c1] at e1; subst e1
    refine v_if_ne (tgt := 12) C dX5_account_5 (by decide) (fun c10 => absurd c10 (by decide)) (fun c10 => ?_)
    refine v_iconst (v := 1) C dX5_account_8 (by decide) ?_
    refine v_goto (tgt := 26) C dX5_account_9 (by decide) ?_
    refine v_put C (mC ad (upN ns 0 1)) P_X5_85 hm.1 rfl rfl rfl (Nat.le_of_ble_eq_true rfl) dX5_account_26 (v_nw (fun h11 eh11 => ?_))
    have hm11 := hm.putS 0 1 rfl eh11
    refine v_aload_n C 0 rfl dX5_account_29 rfl ?_
    refine v_get (v := .int (nI 1)) C F_X5_85 hm11.1 rfl dX5_account_30 ?_
    refine v_if_le (tgt := 40) C dX5_account_33 (by decide) (fun c12 => absurd c12 (by decide)) (fun c12 => ?_)
    refine v_iconst (v := 0) C dX5_account_36 (by decide) ?_
    refine v_goto (tgt := 47) C dX5_account_37 (by decide) ?_
    have ek : (kAccount s a) = 1 := by simp [kAccount, inN, wth, c1, e2]
    exact v_iret C hQ hr rfl (Nat.le_of_ble_eq_true rfl) (Nat.le_of_ble_eq_true rfl) dX5_account_47 (Or.inr ⟨(by rw [ek]; decide), (by rw [ek]; exact ⟨_, _, _, _, hm11, hs.thr _, rfl⟩)⟩)
set_option maxHeartbeats 4000000 in
set_option maxRecDepth 100000 in
theorem c_X5_number (l : Launch) (hl : l.stackTraces = false) (G : zG) (m : Nat) (ad : Nat → Nat) (ns : Nat → Nat) (na : Nat → Nat → Nat) (ia : Nat → Nat → Int32) (la : Nat → Nat → Int64) (h0 : zH) (s : ZS) (v : Int32) (h : zH) (hm : MR G h0 h m ad ns na ia la) (hs : MS s ns na ia la) (hw : WFs s)  : zMet eI l yX5_number cX5_number 2 (some .int) 14 0 0 G [.ref m, .int v] h (fun r h2 => ((kNumber s v) = 0 ∧ MO G h0 h2 m ad (nPush s ([(5, cl v)], 1)) 0 ∧ r = nI ((oS s).length + 1)) ∨ ((kNumber s v) ≠ 0 ∧ MO G h0 h2 m ad s (kNumber s v))) := by
  refine con_of hl RX5 rfl (by decide +kernel) [(0, .ref m), (1, .int v)] rfl (Nat.le_of_ble_eq_true rfl) ?_
  intro zp ze zs zm zargs zbelow zmeth zc C hr hin Q hQ
  have e2 : (oS s).length = ns 2 := hs.2.1.1.symm
  have e7 : oN s = ns 7 := hs.2.2.1.1.symm
  have e17 : rN s = ns 17 := hs.2.2.2.1.1.symm
  have e25 : bN s = ns 25 := hs.2.2.2.2.1.symm
  have hw2 : ns 2 ≤ 8 := by rw [← e2]; exact hw.1
  have hw7 : ns 7 ≤ 10 := by rw [← e7]; exact hw.2.2.1.1
  have hw17 : ns 17 ≤ 6 := by rw [← e17]; exact hw.2.2.2.2.1.1
  have hw25 : ns 25 ≤ 6 := by rw [← e25]; exact hw.2.2.2.2.2.1
  refine v_aload_n C 0 rfl dX5_number_0 rfl ?_
  refine v_iload_n C 1 rfl dX5_number_1 rfl ?_
  refine v_iconst (v := 0) C dX5_number_2 (by decide) ?_
  refine v_ldc C KO_X5_104 dX5_number_3 ?_
  refine v_callS (rest := [.ref m]) C (c_X5_isIn l hl G  v 0 1000000 h ) S_X5_89 rfl rfl (Nat.le_of_ble_eq_true rfl) ⟨Nat.le_of_ble_eq_true rfl, Nat.le_of_ble_eq_true rfl⟩ ⟨Nat.le_of_ble_eq_true rfl, Nat.le_of_ble_eq_true rfl⟩ dX5_number_5 (fun i1 h1 q1 => ?_)
  obtain ⟨e1, rfl⟩ := q1
  by_cases c1 : wth v 0 1000000
  · rw [zb_t c1] at e1; subst e1
    obtain ⟨j2, hj2, en2⟩ := wth_nat (n := 1000000) c1 (by decide) (by decide)
    subst en2
    refine v_if_ne (tgt := 15) C dX5_number_8 (by decide) (fun c3 => ?_) (fun c3 => absurd c3 (by decide))
    refine v_aload_n C 0 rfl dX5_number_15 rfl ?_
    refine v_get (v := .int (nI (ns 2))) C F_X5_105 hm.1 rfl dX5_number_16 ?_
    refine v_bipush (v := 8) C dX5_number_19 (by decide) ?_
    refine v_icmp_ne (tgt := 28) C dX5_number_21 (by decide) (fun c4 => ?_) (fun c4 => ?_)
    · have c4 := (nk_ne (a := (ns 2)) 8 (by decide) (by omega) (by decide)).mp c4
      refine v_iconst (v := 0) C dX5_number_28 (by decide) ?_
      refine v_put C (mC ad (upN ns 0 0)) P_X5_85 hm.1 rfl rfl rfl (Nat.le_of_ble_eq_true rfl) dX5_number_29 (v_nw (fun h5 eh5 => ?_))
      have hm5 := hm.putS 0 0 rfl eh5
      refine v_aload_n C 0 rfl dX5_number_32 rfl ?_
      refine v_get (v := .int (nI 0)) C F_X5_85 hm5.1 rfl dX5_number_33 ?_
      refine v_if_le (tgt := 43) C dX5_number_36 (by decide) (fun c6 => ?_) (fun c6 => absurd c6 (by decide))
      refine v_aload_n C 0 rfl dX5_number_43 rfl ?_
      refine v_iconst (v := 5) C dX5_number_44 (by decide) ?_
      refine v_iload_n C 1 rfl dX5_number_45 rfl ?_
      refine v_iconst (v := 1) C dX5_number_46 (by decide) ?_
      refine v_callV (rest := []) C (c_X5_pushes l hl G m ad (upN ns 0 0) na ia la h0 5 j2 1 h5 hm5 (show ns 2 < 8 by omega)) K_X5_112 hm5.1 rfl rfl (Nat.le_of_ble_eq_true rfl) ⟨Nat.le_of_ble_eq_true rfl, Nat.le_of_ble_eq_true rfl⟩ ⟨Nat.le_of_ble_eq_true rfl, Nat.le_of_ble_eq_true rfl⟩ dX5_number_47 (fun i7 h7 q7 => ?_)
      obtain ⟨e7, hm7⟩ := q7; subst e7
      have ek : (kNumber s (nI j2)) = 0 := by simp [kNumber, inN, wth, c1, c4, e2]
      exact v_iret C hQ hr rfl (Nat.le_of_ble_eq_true rfl) (Nat.le_of_ble_eq_true rfl) dX5_number_50 (Or.inl ⟨ek, ⟨_, _, _, _, hm7, (by rw [cl_nI (by omega)]; exact hs.push hw rfl rfl rfl rfl), rfl⟩, (by rw [e2]; rfl)⟩)
    · have c4 := (nk_ne_f (a := (ns 2)) 8 (by decide) (by omega) (by decide)).mp c4
      refine v_iconst (v := 2) C dX5_number_24 (by decide) ?_
      refine v_goto (tgt := 29) C dX5_number_25 (by decide) ?_
      refine v_put C (mC ad (upN ns 0 2)) P_X5_85 hm.1 rfl rfl rfl (Nat.le_of_ble_eq_true rfl) dX5_number_29 (v_nw (fun h8 eh8 => ?_))
      have hm8 := hm.putS 0 2 rfl eh8
      refine v_aload_n C 0 rfl dX5_number_32 rfl ?_
      refine v_get (v := .int (nI 2)) C F_X5_85 hm8.1 rfl dX5_number_33 ?_
      refine v_if_le (tgt := 43) C dX5_number_36 (by decide) (fun c9 => absurd c9 (by decide)) (fun c9 => ?_)
      refine v_iconst (v := 0) C dX5_number_39 (by decide) ?_
      refine v_goto (tgt := 50) C dX5_number_40 (by decide) ?_
      have ek : (kNumber s (nI j2)) = 2 := by simp [kNumber, inN, wth, c1, c4, e2]
      exact v_iret C hQ hr rfl (Nat.le_of_ble_eq_true rfl) (Nat.le_of_ble_eq_true rfl) dX5_number_50 (Or.inr ⟨(by rw [ek]; decide), (by rw [ek]; exact ⟨_, _, _, _, hm8, hs.thr _, rfl⟩)⟩)
  · rw [zb_f c1] at e1; subst e1
    refine v_if_ne (tgt := 15) C dX5_number_8 (by decide) (fun c10 => absurd c10 (by decide)) (fun c10 => ?_)
    refine v_iconst (v := 1) C dX5_number_11 (by decide) ?_
    refine v_goto (tgt := 29) C dX5_number_12 (by decide) ?_
    refine v_put C (mC ad (upN ns 0 1)) P_X5_85 hm.1 rfl rfl rfl (Nat.le_of_ble_eq_true rfl) dX5_number_29 (v_nw (fun h11 eh11 => ?_))
    have hm11 := hm.putS 0 1 rfl eh11
    refine v_aload_n C 0 rfl dX5_number_32 rfl ?_
    refine v_get (v := .int (nI 1)) C F_X5_85 hm11.1 rfl dX5_number_33 ?_
    refine v_if_le (tgt := 43) C dX5_number_36 (by decide) (fun c12 => absurd c12 (by decide)) (fun c12 => ?_)
    refine v_iconst (v := 0) C dX5_number_39 (by decide) ?_
    refine v_goto (tgt := 50) C dX5_number_40 (by decide) ?_
    have ek : (kNumber s v) = 1 := by simp [kNumber, inN, wth, c1, e2]
    exact v_iret C hQ hr rfl (Nat.le_of_ble_eq_true rfl) (Nat.le_of_ble_eq_true rfl) dX5_number_50 (Or.inr ⟨(by rw [ek]; decide), (by rw [ek]; exact ⟨_, _, _, _, hm11, hs.thr _, rfl⟩)⟩)
set_option maxHeartbeats 4000000 in
set_option maxRecDepth 100000 in
theorem c_X5_term (l : Launch) (hl : l.stackTraces = false) (G : zG) (m : Nat) (ad : Nat → Nat) (ns : Nat → Nat) (na : Nat → Nat → Nat) (ia : Nat → Nat → Int32) (la : Nat → Nat → Int64) (h0 : zH) (s : ZS) (t : Int32) (h : zH) (hm : MR G h0 h m ad ns na ia la) (hs : MS s ns na ia la) (hw : WFs s)  : zMet eI l yX5_term cX5_term 2 (some .int) 14 0 0 G [.ref m, .int t] h (fun r h2 => ((kTerm s t) = 0 ∧ MO G h0 h2 m ad (nPush s ([(6, cl t)], oL s (cl t) + 1)) 0 ∧ r = nI ((oS s).length + 1)) ∨ ((kTerm s t) ≠ 0 ∧ MO G h0 h2 m ad s (kTerm s t))) := by
  refine con_of hl RX5 rfl (by decide +kernel) [(0, .ref m), (1, .int t)] rfl (Nat.le_of_ble_eq_true rfl) ?_
  intro zp ze zs zm zargs zbelow zmeth zc C hr hin Q hQ
  have e2 : (oS s).length = ns 2 := hs.2.1.1.symm
  have e7 : oN s = ns 7 := hs.2.2.1.1.symm
  have e17 : rN s = ns 17 := hs.2.2.2.1.1.symm
  have e25 : bN s = ns 25 := hs.2.2.2.2.1.symm
  have hw2 : ns 2 ≤ 8 := by rw [← e2]; exact hw.1
  have hw7 : ns 7 ≤ 10 := by rw [← e7]; exact hw.2.2.1.1
  have hw17 : ns 17 ≤ 6 := by rw [← e17]; exact hw.2.2.2.2.1.1
  have hw25 : ns 25 ≤ 6 := by rw [← e25]; exact hw.2.2.2.2.2.1
  refine v_aload_n C 0 rfl dX5_term_0 rfl ?_
  refine v_aload_n C 0 rfl dX5_term_1 rfl ?_
  refine v_iload_n C 1 rfl dX5_term_2 rfl ?_
  refine v_callV (rest := [.ref m]) C (c_X5_isTerm l hl G m ad ns na ia la h0 t h hm (by omega)) K_X5_116 hm.1 rfl rfl (Nat.le_of_ble_eq_true rfl) ⟨Nat.le_of_ble_eq_true rfl, Nat.le_of_ble_eq_true rfl⟩ ⟨Nat.le_of_ble_eq_true rfl, Nat.le_of_ble_eq_true rfl⟩ dX5_term_3 (fun i1 h1 q1 => ?_)
  obtain ⟨e1, rfl⟩ := q1
  by_cases c1 : inN t (ns 7)
  · rw [zb_t c1] at e1; subst e1
    obtain ⟨j2, hj2, en2⟩ := inN.nat c1 (by omega)
    subst en2
    have hL : na 8 j2 = oL s j2 := hs.2.2.1.2.1 j2 (show j2 < oN s by rw [e7]; omega)
    obtain ⟨hL1, hL2, -⟩ := hw.2.2.1.2.1 j2 (show j2 < oN s by rw [e7]; omega)
    have eL : oL s (cl (nI j2)) = na 8 j2 := by rw [cl_nI (by omega), hL]
    refine v_if_ne (tgt := 13) C dX5_term_6 (by decide) (fun c3 => ?_) (fun c3 => absurd c3 (by decide))
    refine v_iconst (v := 0) C dX5_term_13 (by decide) ?_
    refine v_put C (mC ad (upN ns 0 0)) P_X5_85 hm.1 rfl rfl rfl (Nat.le_of_ble_eq_true rfl) dX5_term_14 (v_nw (fun h4 eh4 => ?_))
    have hm4 := hm.putS 0 0 rfl eh4
    refine v_aload_n C 0 rfl dX5_term_17 rfl ?_
    refine v_get (v := .int (nI 0)) C F_X5_85 hm4.1 rfl dX5_term_18 ?_
    refine v_if_le (tgt := 26) C dX5_term_21 (by decide) (fun c5 => ?_) (fun c5 => absurd c5 (by decide))
    refine v_aload_n C 0 rfl dX5_term_26 rfl ?_
    refine v_aload_n C 0 rfl dX5_term_27 rfl ?_
    refine v_get (v := .int (nI (ns 2))) C F_X5_105 hm4.1 rfl dX5_term_28 ?_
    refine v_bipush (v := 8) C dX5_term_31 (by decide) ?_
    refine v_icmp_eq (tgt := 47) C dX5_term_33 (by decide) (fun c6 => ?_) (fun c6 => ?_)
    · have c6 := (nk_eq (a := (ns 2)) 8 (by decide) (by omega) (by decide)).mp c6
      refine v_iconst (v := 2) C dX5_term_47 (by decide) ?_
      refine v_goto (tgt := 52) C dX5_term_48 (by decide) ?_
      refine v_put C (mC ad (upN (upN ns 0 0) 0 2)) P_X5_85 hm4.1 rfl rfl rfl (Nat.le_of_ble_eq_true rfl) dX5_term_52 (v_nw (fun h7 eh7 => ?_))
      have hm7 := hm4.putS 0 2 rfl eh7
      refine v_aload_n C 0 rfl dX5_term_55 rfl ?_
      refine v_get (v := .int (nI 2)) C F_X5_85 hm7.1 rfl dX5_term_56 ?_
      refine v_if_le (tgt := 66) C dX5_term_59 (by decide) (fun c8 => absurd c8 (by decide)) (fun c8 => ?_)
      refine v_iconst (v := 0) C dX5_term_62 (by decide) ?_
      refine v_goto (tgt := 81) C dX5_term_63 (by decide) ?_
      have ek : (kTerm s (nI j2)) = 2 := by simp [kTerm, inN, wth, c1, eL, c6, e2, e7]
      exact v_iret C hQ hr rfl (Nat.le_of_ble_eq_true rfl) (Nat.le_of_ble_eq_true rfl) dX5_term_81 (Or.inr ⟨(by rw [ek]; decide), (by rw [ek]; exact ⟨_, _, _, _, hm7, hs.thr _, rfl⟩)⟩)
    · have c6 := (nk_eq_f (a := (ns 2)) 8 (by decide) (by omega) (by decide)).mp c6
      refine v_aload_n C 0 rfl dX5_term_36 rfl ?_
      refine v_get (v := .ref (ad 8)) C F_X5_25 hm4.1 rfl dX5_term_37 ?_
      refine v_iload_n C 1 rfl dX5_term_40 rfl ?_
      refine v_iald C (hm4.2.1 8 rfl) (vpin (show j2 < 10 by omega) (by decide)) dX5_term_41 (v_eqi (y := nI ((na 8) j2)) (congrArg (fun j => nI ((na 8) j)) (nI_clamp (show j2 < 2 ^ 31 by omega))) ?_)
      refine v_bipush (v := 6) C dX5_term_42 (by decide) ?_
      refine v_icmp_ne (tgt := 51) C dX5_term_44 (by decide) (fun c9 => ?_) (fun c9 => ?_)
      · have c9 := (nk_ne (a := ((na 8) j2)) 6 (by decide) (by omega) (by decide)).mp c9
        refine v_iconst (v := 0) C dX5_term_51 (by decide) ?_
        refine v_put C (mC ad (upN (upN ns 0 0) 0 0)) P_X5_85 hm4.1 rfl rfl rfl (Nat.le_of_ble_eq_true rfl) dX5_term_52 (v_nw (fun h10 eh10 => ?_))
        have hm10 := hm4.putS 0 0 rfl eh10
        refine v_aload_n C 0 rfl dX5_term_55 rfl ?_
        refine v_get (v := .int (nI 0)) C F_X5_85 hm10.1 rfl dX5_term_56 ?_
        refine v_if_le (tgt := 66) C dX5_term_59 (by decide) (fun c11 => ?_) (fun c11 => absurd c11 (by decide))
        refine v_aload_n C 0 rfl dX5_term_66 rfl ?_
        refine v_bipush (v := 6) C dX5_term_67 (by decide) ?_
        refine v_iload_n C 1 rfl dX5_term_69 rfl ?_
        refine v_aload_n C 0 rfl dX5_term_70 rfl ?_
        refine v_get (v := .ref (ad 8)) C F_X5_25 hm10.1 rfl dX5_term_71 ?_
        refine v_iload_n C 1 rfl dX5_term_74 rfl ?_
        refine v_iald C (hm10.2.1 8 rfl) (vpin (show j2 < 10 by omega) (by decide)) dX5_term_75 (v_eqi (y := nI ((na 8) j2)) (congrArg (fun j => nI ((na 8) j)) (nI_clamp (show j2 < 2 ^ 31 by omega))) ?_)
        refine v_iconst (v := 1) C dX5_term_76 (by decide) ?_
        refine v_iadd C dX5_term_77 (v_eqi (nI_adk ((na 8) j2) 1 (by decide)) ?_)
        refine v_callV (rest := []) C (c_X5_pushes l hl G m ad (upN (upN ns 0 0) 0 0) na ia la h0 6 j2 (((na 8) j2) + 1) h10 hm10 (show ns 2 < 8 by omega)) K_X5_112 hm10.1 rfl rfl (Nat.le_of_ble_eq_true rfl) ⟨Nat.le_of_ble_eq_true rfl, Nat.le_of_ble_eq_true rfl⟩ ⟨Nat.le_of_ble_eq_true rfl, Nat.le_of_ble_eq_true rfl⟩ dX5_term_78 (fun i13 h13 q13 => ?_)
        obtain ⟨e13, hm13⟩ := q13; subst e13
        have ek : (kTerm s (nI j2)) = 0 := by simp [kTerm, inN, wth, c1, eL, c6, c9, e2, e7]
        exact v_iret C hQ hr rfl (Nat.le_of_ble_eq_true rfl) (Nat.le_of_ble_eq_true rfl) dX5_term_81 (Or.inl ⟨ek, ⟨_, _, _, _, hm13, (by rw [cl_nI (by omega), ← hL]; exact hs.push hw rfl rfl rfl rfl), rfl⟩, (by rw [e2]; rfl)⟩)
      · have c9 := (nk_ne_f (a := ((na 8) j2)) 6 (by decide) (by omega) (by decide)).mp c9
        refine v_iconst (v := 2) C dX5_term_47 (by decide) ?_
        refine v_goto (tgt := 52) C dX5_term_48 (by decide) ?_
        refine v_put C (mC ad (upN (upN ns 0 0) 0 2)) P_X5_85 hm4.1 rfl rfl rfl (Nat.le_of_ble_eq_true rfl) dX5_term_52 (v_nw (fun h14 eh14 => ?_))
        have hm14 := hm4.putS 0 2 rfl eh14
        refine v_aload_n C 0 rfl dX5_term_55 rfl ?_
        refine v_get (v := .int (nI 2)) C F_X5_85 hm14.1 rfl dX5_term_56 ?_
        refine v_if_le (tgt := 66) C dX5_term_59 (by decide) (fun c15 => absurd c15 (by decide)) (fun c15 => ?_)
        refine v_iconst (v := 0) C dX5_term_62 (by decide) ?_
        refine v_goto (tgt := 81) C dX5_term_63 (by decide) ?_
        have ek : (kTerm s (nI j2)) = 2 := by simp [kTerm, inN, wth, c1, eL, c6, c9, e2, e7]
        exact v_iret C hQ hr rfl (Nat.le_of_ble_eq_true rfl) (Nat.le_of_ble_eq_true rfl) dX5_term_81 (Or.inr ⟨(by rw [ek]; decide), (by rw [ek]; exact ⟨_, _, _, _, hm14, hs.thr _, rfl⟩)⟩)
  · rw [zb_f c1] at e1; subst e1
    refine v_if_ne (tgt := 13) C dX5_term_6 (by decide) (fun c16 => absurd c16 (by decide)) (fun c16 => ?_)
    refine v_iconst (v := 1) C dX5_term_9 (by decide) ?_
    refine v_goto (tgt := 14) C dX5_term_10 (by decide) ?_
    refine v_put C (mC ad (upN ns 0 1)) P_X5_85 hm.1 rfl rfl rfl (Nat.le_of_ble_eq_true rfl) dX5_term_14 (v_nw (fun h17 eh17 => ?_))
    have hm17 := hm.putS 0 1 rfl eh17
    refine v_aload_n C 0 rfl dX5_term_17 rfl ?_
    refine v_get (v := .int (nI 1)) C F_X5_85 hm17.1 rfl dX5_term_18 ?_
    refine v_if_le (tgt := 26) C dX5_term_21 (by decide) (fun c18 => absurd c18 (by decide)) (fun c18 => ?_)
    refine v_iconst (v := 0) C dX5_term_24 (by decide) ?_
    have ek : (kTerm s t) = 1 := by simp [kTerm, inN, wth, c1, e2, e7]
    exact v_iret C hQ hr rfl (Nat.le_of_ble_eq_true rfl) (Nat.le_of_ble_eq_true rfl) dX5_term_25 (Or.inr ⟨(by rw [ek]; decide), (by rw [ek]; exact ⟨_, _, _, _, hm17, hs.thr _, rfl⟩)⟩)

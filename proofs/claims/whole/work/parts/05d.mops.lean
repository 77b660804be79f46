set_option maxHeartbeats 4000000 in
set_option maxRecDepth 100000 in
theorem c_X5_amount (l : Launch) (hl : l.stackTraces = false) (G : zG) (m : Nat) (ad : Nat → Nat) (ns : Nat → Nat) (na : Nat → Nat → Nat) (ia : Nat → Nat → Int32) (la : Nat → Nat → Int64) (h0 : zH) (s : ZS) (a q v : Int32) (h : zH) (hm : MR G h0 h m ad ns na ia la) (hs : MS s ns na ia la) (hw : WFs s)  : zMet eI l yX5_amount cX5_amount 6 (some .int) 14 0 0 G [.ref m, .int a, .int q, .int v] h (fun res h2 => ((kAmount a q v) = 0 ∧ MO G h0 h2 m ad (nAmount s a q v) 0 ∧ res = oA s (cl a) (cl q)) ∨ ((kAmount a q v) ≠ 0 ∧ MO G h0 h2 m ad s (kAmount a q v))) := by
  refine con_of hl RX5 rfl (by decide +kernel) [(0, .ref m), (1, .int a), (2, .int q), (3, .int v)] rfl (Nat.le_of_ble_eq_true rfl) ?_
  intro zp ze zs zm zargs zbelow zmeth zc C hr hin Q hQ
  refine v_iload_n C 1 rfl dX5_amount_0 rfl ?_
  refine v_callS (rest := []) C (c_X5_isAccount l hl G  a h ) S_X5_96 rfl rfl (Nat.le_of_ble_eq_true rfl) ⟨Nat.le_of_ble_eq_true rfl, Nat.le_of_ble_eq_true rfl⟩ ⟨Nat.le_of_ble_eq_true rfl, Nat.le_of_ble_eq_true rfl⟩ dX5_amount_1 (fun i1 h1 q1 => ?_)
  obtain ⟨e1, rfl⟩ := q1
  by_cases c1 : inN a 6
  · rw [zb_t c1] at e1; subst e1
    obtain ⟨j2, hj2, en2⟩ := inN.nat c1 (by omega)
    subst en2
    refine v_if_eq (tgt := 18) C dX5_amount_4 (by decide) (fun c3 => absurd c3 (by decide)) (fun c3 => ?_)
    refine v_iload_n C 2 rfl dX5_amount_7 rfl ?_
    refine v_callS (rest := []) C (c_X5_isQuarter l hl G  q h ) S_X5_100 rfl rfl (Nat.le_of_ble_eq_true rfl) ⟨Nat.le_of_ble_eq_true rfl, Nat.le_of_ble_eq_true rfl⟩ ⟨Nat.le_of_ble_eq_true rfl, Nat.le_of_ble_eq_true rfl⟩ dX5_amount_8 (fun i4 h4 q4 => ?_)
    obtain ⟨e4, rfl⟩ := q4
    by_cases c4 : inN q 20
    · rw [zb_t c4] at e4; subst e4
      obtain ⟨j5, hj5, en5⟩ := inN.nat c4 (by omega)
      subst en5
      refine v_if_eq (tgt := 18) C dX5_amount_11 (by decide) (fun c6 => absurd c6 (by decide)) (fun c6 => ?_)
      refine v_iconst (v := 1) C dX5_amount_14 (by decide) ?_
      refine v_goto (tgt := 19) C dX5_amount_15 (by decide) ?_
      refine v_istore C [(4, .int 1), (0, .ref m), (1, .int (nI j2)), (2, .int (nI j5)), (3, .int v)] rfl (by decide) dX5_amount_19 ?_
      refine v_aload_n C 1 rfl dX5_amount_21 rfl ?_
      refine v_iload C 0 rfl dX5_amount_22 ?_
      refine v_if_ne (tgt := 31) C dX5_amount_24 (by decide) (fun c7 => ?_) (fun c7 => absurd c7 (by decide))
      refine v_iload_n C 4 rfl dX5_amount_31 rfl ?_
      refine v_ldc C KO_X5_103 dX5_amount_32 ?_
      refine v_ldc C KO_X5_104 dX5_amount_34 ?_
      refine v_callS (rest := [.ref m]) C (c_X5_isIn l hl G  v (-1000000) 1000000 h ) S_X5_89 rfl rfl (Nat.le_of_ble_eq_true rfl) ⟨Nat.le_of_ble_eq_true rfl, Nat.le_of_ble_eq_true rfl⟩ ⟨Nat.le_of_ble_eq_true rfl, Nat.le_of_ble_eq_true rfl⟩ dX5_amount_36 (fun i8 h8 q8 => ?_)
      obtain ⟨e8, rfl⟩ := q8
      by_cases c8 : wth v (-1000000) 1000000
      · rw [zb_t c8] at e8; subst e8
        refine v_if_eq (tgt := 46) C dX5_amount_39 (by decide) (fun c9 => absurd c9 (by decide)) (fun c9 => ?_)
        refine v_iconst (v := 0) C dX5_amount_42 (by decide) ?_
        refine v_goto (tgt := 47) C dX5_amount_43 (by decide) ?_
        refine v_put C (mC ad (upN ns 0 0)) P_X5_85 hm.1 rfl rfl rfl (Nat.le_of_ble_eq_true rfl) dX5_amount_47 (v_nw (fun h10 eh10 => ?_))
        have hm10 := hm.putS 0 0 rfl eh10
        refine v_aload_n C 1 rfl dX5_amount_50 rfl ?_
        refine v_get (v := .int (nI 0)) C F_X5_85 hm10.1 rfl dX5_amount_51 ?_
        refine v_if_le (tgt := 59) C dX5_amount_54 (by decide) (fun c11 => ?_) (fun c11 => absurd c11 (by decide))
        refine v_aload_n C 1 rfl dX5_amount_59 rfl ?_
        refine v_get (v := .ref (ad 1)) C F_X5_7 hm10.1 rfl dX5_amount_60 ?_
        refine v_bipush (v := 20) C dX5_amount_63 (by decide) ?_
        refine v_iload_n C 2 rfl dX5_amount_65 rfl ?_
        refine v_imul C dX5_amount_66 (v_eqi (nI_kml j2 20 (by decide)) ?_)
        refine v_iload_n C 3 rfl dX5_amount_67 rfl ?_
        refine v_iadd C dX5_amount_68 (v_eqi (nI_add (20 * j2) j5) ?_)
        refine v_iald C (hm10.2.2.1 1 rfl) (vpin (show ((20 * j2) + j5) < 120 by omega) (by decide)) dX5_amount_69 (v_eqi (y := (ia 1) ((20 * j2) + j5)) (congrArg (ia 1) (nI_clamp (show ((20 * j2) + j5) < 2 ^ 31 by omega))) ?_)
        refine v_istore C [(5, .int ((ia 1) ((20 * j2) + j5))), (4, .int 1), (0, .ref m), (1, .int (nI j2)), (2, .int (nI j5)), (3, .int v)] rfl (by decide) dX5_amount_70 ?_
        refine v_aload_n C 2 rfl dX5_amount_72 rfl ?_
        refine v_get (v := .ref (ad 1)) C F_X5_7 hm10.1 rfl dX5_amount_73 ?_
        refine v_bipush (v := 20) C dX5_amount_76 (by decide) ?_
        refine v_iload_n C 3 rfl dX5_amount_78 rfl ?_
        refine v_imul C dX5_amount_79 (v_eqi (nI_kml j2 20 (by decide)) ?_)
        refine v_iload_n C 4 rfl dX5_amount_80 rfl ?_
        refine v_iadd C dX5_amount_81 (v_eqi (nI_add (20 * j2) j5) ?_)
        refine v_iload_n C 5 rfl dX5_amount_82 rfl ?_
        refine v_iast C (hm10.2.2.1 1 rfl) (vpin (show ((20 * j2) + j5) < 120 by omega) (by decide)) dX5_amount_83 (v_nw (fun h16 eh16 => ?_))
        have hm16 := hm10.putI2 (k := 1) rfl (g := (ia 1)) (i := ((20 * j2) + j5)) (v := v) (by omega) eh16
        refine v_iload C 0 rfl dX5_amount_84 ?_
        have ek : (kAmount (nI j2) (nI j5) v) = 0 := by simp [kAmount, inN, wth, c1, c4, c8]
        exact v_iret C hQ hr rfl (Nat.le_of_ble_eq_true rfl) (Nat.le_of_ble_eq_true rfl) dX5_amount_86 (Or.inl ⟨ek, ⟨_, _, _, _, hm16, (by show MSa (up3 (oA s) (cl (nI j2)) (cl (nI j5)) v) _ ∧ _; rw [cl_nI (by omega), cl_nI (by omega)]; exact ⟨hs.1.put (by omega), hs.2⟩), rfl⟩, (by rw [cl_nI (by omega), cl_nI (by omega)]; exact hs.1 _ _ (by omega) (by omega))⟩)
      · rw [zb_f c8] at e8; subst e8
        refine v_if_eq (tgt := 46) C dX5_amount_39 (by decide) (fun c17 => ?_) (fun c17 => absurd c17 (by decide))
        refine v_iconst (v := 2) C dX5_amount_46 (by decide) ?_
        refine v_put C (mC ad (upN ns 0 2)) P_X5_85 hm.1 rfl rfl rfl (Nat.le_of_ble_eq_true rfl) dX5_amount_47 (v_nw (fun h18 eh18 => ?_))
        have hm18 := hm.putS 0 2 rfl eh18
        refine v_aload_n C 1 rfl dX5_amount_50 rfl ?_
        refine v_get (v := .int (nI 2)) C F_X5_85 hm18.1 rfl dX5_amount_51 ?_
        refine v_if_le (tgt := 59) C dX5_amount_54 (by decide) (fun c19 => absurd c19 (by decide)) (fun c19 => ?_)
        refine v_iconst (v := 0) C dX5_amount_57 (by decide) ?_
        have ek : (kAmount (nI j2) (nI j5) v) = 2 := by simp [kAmount, inN, wth, c1, c4, c8]
        exact v_iret C hQ hr rfl (Nat.le_of_ble_eq_true rfl) (Nat.le_of_ble_eq_true rfl) dX5_amount_58 (Or.inr ⟨(by rw [ek]; decide), (by rw [ek]; exact ⟨_, _, _, _, hm18, hs.thr _, rfl⟩)⟩)
    · rw [zb_f c4] at e4; subst e4
      refine v_if_eq (tgt := 18) C dX5_amount_11 (by decide) (fun c20 => ?_) (fun c20 => absurd c20 (by decide))
      refine v_iconst (v := 0) C dX5_amount_18 (by decide) ?_
      refine v_istore C [(4, .int 0), (0, .ref m), (1, .int (nI j2)), (2, .int q), (3, .int v)] rfl (by decide) dX5_amount_19 ?_
      refine v_aload_n C 1 rfl dX5_amount_21 rfl ?_
      refine v_iload C 0 rfl dX5_amount_22 ?_
      refine v_if_ne (tgt := 31) C dX5_amount_24 (by decide) (fun c21 => absurd c21 (by decide)) (fun c21 => ?_)
      refine v_iconst (v := 1) C dX5_amount_27 (by decide) ?_
      refine v_goto (tgt := 47) C dX5_amount_28 (by decide) ?_
      refine v_put C (mC ad (upN ns 0 1)) P_X5_85 hm.1 rfl rfl rfl (Nat.le_of_ble_eq_true rfl) dX5_amount_47 (v_nw (fun h22 eh22 => ?_))
      have hm22 := hm.putS 0 1 rfl eh22
      refine v_aload_n C 1 rfl dX5_amount_50 rfl ?_
      refine v_get (v := .int (nI 1)) C F_X5_85 hm22.1 rfl dX5_amount_51 ?_
      refine v_if_le (tgt := 59) C dX5_amount_54 (by decide) (fun c23 => absurd c23 (by decide)) (fun c23 => ?_)
      refine v_iconst (v := 0) C dX5_amount_57 (by decide) ?_
      have ek : (kAmount (nI j2) q v) = 1 := by simp [kAmount, inN, wth, c1, c4]
      exact v_iret C hQ hr rfl (Nat.le_of_ble_eq_true rfl) (Nat.le_of_ble_eq_true rfl) dX5_amount_58 (Or.inr ⟨(by rw [ek]; decide), (by rw [ek]; exact ⟨_, _, _, _, hm22, hs.thr _, rfl⟩)⟩)
  · rw [zb_f c1] at e1; subst e1
    refine v_if_eq (tgt := 18) C dX5_amount_4 (by decide) (fun c24 => ?_) (fun c24 => absurd c24 (by decide))
    refine v_iconst (v := 0) C dX5_amount_18 (by decide) ?_
    refine v_istore C [(4, .int 0), (0, .ref m), (1, .int a), (2, .int q), (3, .int v)] rfl (by decide) dX5_amount_19 ?_
    refine v_aload_n C 1 rfl dX5_amount_21 rfl ?_
    refine v_iload C 0 rfl dX5_amount_22 ?_
    refine v_if_ne (tgt := 31) C dX5_amount_24 (by decide) (fun c25 => absurd c25 (by decide)) (fun c25 => ?_)
    refine v_iconst (v := 1) C dX5_amount_27 (by decide) ?_
    refine v_goto (tgt := 47) C dX5_amount_28 (by decide) ?_
    refine v_put C (mC ad (upN ns 0 1)) P_X5_85 hm.1 rfl rfl rfl (Nat.le_of_ble_eq_true rfl) dX5_amount_47 (v_nw (fun h26 eh26 => ?_))
    have hm26 := hm.putS 0 1 rfl eh26
    refine v_aload_n C 1 rfl dX5_amount_50 rfl ?_
    refine v_get (v := .int (nI 1)) C F_X5_85 hm26.1 rfl dX5_amount_51 ?_
    refine v_if_le (tgt := 59) C dX5_amount_54 (by decide) (fun c27 => absurd c27 (by decide)) (fun c27 => ?_)
    refine v_iconst (v := 0) C dX5_amount_57 (by decide) ?_
    have ek : (kAmount a q v) = 1 := by simp [kAmount, inN, wth, c1]
    exact v_iret C hQ hr rfl (Nat.le_of_ble_eq_true rfl) (Nat.le_of_ble_eq_true rfl) dX5_amount_58 (Or.inr ⟨(by rw [ek]; decide), (by rw [ek]; exact ⟨_, _, _, _, hm26, hs.thr _, rfl⟩)⟩)
set_option maxHeartbeats 4000000 in
set_option maxRecDepth 100000 in
theorem c_X5_adds (l : Launch) (hl : l.stackTraces = false) (G : zG) (m : Nat) (ad : Nat → Nat) (ns : Nat → Nat) (na : Nat → Nat → Nat) (ia : Nat → Nat → Int32) (la : Nat → Nat → Int64) (h0 : zH) (p k n : Nat) (h : zH) (hm : MR G h0 h m ad ns na ia la) (hp : p < 8) (hc : na 3 p < 64) : zMet eV l yX5_adds cX5_adds 4 none 12 0 0 G [.ref m, .int (nI p), .int (nI k), .int (nI n)] h (fun _ h2 => MR G h0 h2 m ad ns (adN na p k n) ia la) := by
  refine con_of hl RX5 rfl (by decide +kernel) [(0, .ref m), (1, .int (nI p)), (2, .int (nI k)), (3, .int (nI n))] rfl (Nat.le_of_ble_eq_true rfl) ?_
  intro zp ze zs zm zargs zbelow zmeth zc C hr hin Q hQ
  refine v_aload_n C 0 rfl dX5_adds_0 rfl ?_
  refine v_get (v := .ref (ad 5)) C F_X5_19 hm.1 rfl dX5_adds_1 ?_
  refine v_bipush (v := 64) C dX5_adds_4 (by decide) ?_
  refine v_iload_n C 1 rfl dX5_adds_6 rfl ?_
  refine v_imul C dX5_adds_7 (v_eqi (nI_kml p 64 (by decide)) ?_)
  refine v_aload_n C 0 rfl dX5_adds_8 rfl ?_
  refine v_get (v := .ref (ad 3)) C F_X5_13 hm.1 rfl dX5_adds_9 ?_
  refine v_iload_n C 1 rfl dX5_adds_12 rfl ?_
  refine v_iald C (hm.2.1 3 rfl) (vpin (show p < 8 by omega) (by decide)) dX5_adds_13 (v_eqi (y := nI ((na 3) p)) (congrArg (fun j => nI ((na 3) j)) (nI_clamp (show p < 2 ^ 31 by omega))) ?_)
  refine v_iadd C dX5_adds_14 (v_eqi (nI_add (64 * p) ((na 3) p)) ?_)
  refine v_iload_n C 2 rfl dX5_adds_15 rfl ?_
  refine v_iast C (hm.2.1 5 rfl) (vpin (show ((64 * p) + ((na 3) p)) < 512 by omega) (by decide)) dX5_adds_16 (v_nw (fun h3 eh3 => ?_))
  have hm3 := hm.putN (k := 5) rfl (g := (na 5)) (i := ((64 * p) + ((na 3) p))) (v := k) (by omega) eh3
  refine v_aload_n C 0 rfl dX5_adds_17 rfl ?_
  refine v_get (v := .ref (ad 6)) C F_X5_22 hm3.1 rfl dX5_adds_18 ?_
  refine v_bipush (v := 64) C dX5_adds_21 (by decide) ?_
  refine v_iload_n C 1 rfl dX5_adds_23 rfl ?_
  refine v_imul C dX5_adds_24 (v_eqi (nI_kml p 64 (by decide)) ?_)
  refine v_aload_n C 0 rfl dX5_adds_25 rfl ?_
  refine v_get (v := .ref (ad 3)) C F_X5_13 hm3.1 rfl dX5_adds_26 ?_
  refine v_iload_n C 1 rfl dX5_adds_29 rfl ?_
  refine v_iald C (hm3.2.1 3 rfl) (vpin (show p < 8 by omega) (by decide)) dX5_adds_30 (v_eqi (y := nI ((na 3) p)) (congrArg (fun j => nI ((na 3) j)) (nI_clamp (show p < 2 ^ 31 by omega))) ?_)
  refine v_iadd C dX5_adds_31 (v_eqi (nI_add (64 * p) ((na 3) p)) ?_)
  refine v_iload_n C 3 rfl dX5_adds_32 rfl ?_
  refine v_iast C (hm3.2.1 6 rfl) (vpin (show ((64 * p) + ((na 3) p)) < 512 by omega) (by decide)) dX5_adds_33 (v_nw (fun h6 eh6 => ?_))
  have hm6 := hm3.putN (k := 6) rfl (g := (na 6)) (i := ((64 * p) + ((na 3) p))) (v := n) (by omega) eh6
  refine v_aload_n C 0 rfl dX5_adds_34 rfl ?_
  refine v_get (v := .ref (ad 3)) C F_X5_13 hm6.1 rfl dX5_adds_35 ?_
  refine v_iload_n C 1 rfl dX5_adds_38 rfl ?_
  refine v_dup2_11 C dX5_adds_39 rfl rfl ?_
  refine v_iald C (hm6.2.1 3 rfl) (vpin (show p < 8 by omega) (by decide)) dX5_adds_40 (v_eqi (y := nI ((na 3) p)) (congrArg (fun j => nI ((na 3) j)) (nI_clamp (show p < 2 ^ 31 by omega))) ?_)
  refine v_iconst (v := 1) C dX5_adds_41 (by decide) ?_
  refine v_iadd C dX5_adds_42 (v_eqi (nI_adk ((na 3) p) 1 (by decide)) ?_)
  refine v_iast C (hm6.2.1 3 rfl) (vpin (show p < 8 by omega) (by decide)) dX5_adds_43 (v_nw (fun h8 eh8 => ?_))
  have hm8 := hm6.putN (k := 3) rfl (g := (na 3)) (i := p) (v := (((na 3) p) + 1)) (by omega) eh8
  exact v_vret C hQ hr (Nat.le_of_ble_eq_true rfl) (Nat.le_of_ble_eq_true rfl) dX5_adds_44 hm8
set_option maxHeartbeats 4000000 in
set_option maxRecDepth 100000 in
theorem c_X5_pushes (l : Launch) (hl : l.stackTraces = false) (G : zG) (m : Nat) (ad : Nat → Nat) (ns : Nat → Nat) (na : Nat → Nat → Nat) (ia : Nat → Nat → Int32) (la : Nat → Nat → Int64) (h0 : zH) (k n lv : Nat) (h : zH) (hm : MR G h0 h m ad ns na ia la) (hp : ns 2 < 8) : zMet eI l yX5_pushes cX5_pushes 4 (some .int) 13 0 0 G [.ref m, .int (nI k), .int (nI n), .int (nI lv)] h (fun r h2 => r = nI (ns 2 + 1) ∧ MR G h0 h2 m ad (upN ns 2 (ns 2 + 1)) (puN na (ns 2) k n lv) ia la) := by
  refine con_of hl RX5 rfl (by decide +kernel) [(0, .ref m), (1, .int (nI k)), (2, .int (nI n)), (3, .int (nI lv))] rfl (Nat.le_of_ble_eq_true rfl) ?_
  intro zp ze zs zm zargs zbelow zmeth zc C hr hin Q hQ
  refine v_aload_n C 0 rfl dX5_pushes_0 rfl ?_
  refine v_get (v := .ref (ad 3)) C F_X5_13 hm.1 rfl dX5_pushes_1 ?_
  refine v_aload_n C 0 rfl dX5_pushes_4 rfl ?_
  refine v_get (v := .int (nI (ns 2))) C F_X5_105 hm.1 rfl dX5_pushes_5 ?_
  refine v_iconst (v := 0) C dX5_pushes_8 (by decide) ?_
  refine v_iast C (hm.2.1 3 rfl) (vpin (show (ns 2) < 8 by omega) (by decide)) dX5_pushes_9 (v_nw (fun h1 eh1 => ?_))
  have hm1 := hm.putN (k := 3) rfl (g := (na 3)) (i := (ns 2)) (v := 0) (by omega) eh1
  refine v_aload_n C 0 rfl dX5_pushes_10 rfl ?_
  refine v_get (v := .ref (ad 4)) C F_X5_16 hm1.1 rfl dX5_pushes_11 ?_
  refine v_aload_n C 0 rfl dX5_pushes_14 rfl ?_
  refine v_get (v := .int (nI (ns 2))) C F_X5_105 hm1.1 rfl dX5_pushes_15 ?_
  refine v_iload_n C 3 rfl dX5_pushes_18 rfl ?_
  refine v_iast C (hm1.2.1 4 rfl) (vpin (show (ns 2) < 8 by omega) (by decide)) dX5_pushes_19 (v_nw (fun h2 eh2 => ?_))
  have hm2 := hm1.putN (k := 4) rfl (g := (na 4)) (i := (ns 2)) (v := lv) (by omega) eh2
  refine v_aload_n C 0 rfl dX5_pushes_20 rfl ?_
  refine v_aload_n C 0 rfl dX5_pushes_21 rfl ?_
  refine v_get (v := .int (nI (ns 2))) C F_X5_105 hm2.1 rfl dX5_pushes_22 ?_
  refine v_iload_n C 1 rfl dX5_pushes_25 rfl ?_
  refine v_iload_n C 2 rfl dX5_pushes_26 rfl ?_
  refine v_callV (rest := []) C (c_X5_adds l hl G m ad ns (up2 (up2 na 3 (upN (na 3) (ns 2) 0)) 4 (upN (na 4) (ns 2) lv)) ia la h0 (ns 2) k n h2 hm2 (by omega) (by show upN (na 3) (ns 2) 0 (ns 2) < 64; rw [upN_s]; decide)) K_X5_108 hm2.1 rfl rfl (Nat.le_of_ble_eq_true rfl) ⟨Nat.le_of_ble_eq_true rfl, Nat.le_of_ble_eq_true rfl⟩ ⟨Nat.le_of_ble_eq_true rfl, Nat.le_of_ble_eq_true rfl⟩ dX5_pushes_27 (fun _ h3 hm3 => ?_)
  refine v_aload_n C 0 rfl dX5_pushes_30 rfl ?_
  refine v_dup C dX5_pushes_31 rfl ?_
  refine v_get (v := .int (nI (ns 2))) C F_X5_105 hm3.1 rfl dX5_pushes_32 ?_
  refine v_iconst (v := 1) C dX5_pushes_35 (by decide) ?_
  refine v_iadd C dX5_pushes_36 (v_eqi (nI_adk (ns 2) 1 (by decide)) ?_)
  refine v_put C (mC ad (upN ns 2 ((ns 2) + 1))) P_X5_105 hm3.1 rfl rfl rfl (Nat.le_of_ble_eq_true rfl) dX5_pushes_37 (v_nw (fun h5 eh5 => ?_))
  have hm5 := hm3.putS 2 ((ns 2) + 1) rfl eh5
  refine v_aload_n C 0 rfl dX5_pushes_40 rfl ?_
  refine v_get (v := .int (nI ((ns 2) + 1))) C F_X5_105 hm5.1 rfl dX5_pushes_41 ?_
  exact v_iret C hQ hr rfl (Nat.le_of_ble_eq_true rfl) (Nat.le_of_ble_eq_true rfl) dX5_pushes_44 ⟨rfl, hm5⟩
theorem wth_nat {x y : Int32} {n : Nat} (h : wth x 0 y) (hy : y = nI n) (hn : n + 1 < 2 ^ 31) : ∃ j, j ≤ n ∧ x = nI j := i32_inle hn (wth_iff.mp h).1 (by rw [← hy]; exact (wth_iff.mp h).2)
set_option maxHeartbeats 4000000 in
set_option maxRecDepth 100000 in
theorem c_X5_account (l : Launch) (hl : l.stackTraces = false) (G : zG) (m : Nat) (ad : Nat → Nat) (ns : Nat → Nat) (na : Nat → Nat → Nat) (ia : Nat → Nat → Int32) (la : Nat → Nat → Int64) (h0 : zH) (s : ZS) (a : Int32) (h : zH) (hm : MR G h0 h m ad ns na ia la) (hs : MS s ns na ia la) (hw : WFs s)  : zMet eI l yX5_account cX5_account 2 (some .int) 14 0 0 G [.ref m, .int a] h (fun res h2 => ((kAccount s a) = 0 ∧ MO G h0 h2 m ad (nPush s ([(4, cl a)], 1)) 0 ∧ res = nI ((oS s).length + 1)) ∨ ((kAccount s a) ≠ 0 ∧ MO G h0 h2 m ad s (kAccount s a))) := by
  refine con_of hl RX5 rfl (by decide +kernel) [(0, .ref m), (1, .int a)] rfl (Nat.le_of_ble_eq_true rfl) ?_
  intro zp ze zs zm zargs zbelow zmeth zc C hr hin Q hQ
  have e2 : (oS s).length = ns 2 := hs.2.1.1.symm
  have e7 : oN s = ns 7 := hs.2.2.1.1.symm
  have e17 : rN s = ns 17 := hs.2.2.2.1.1.symm
  have e25 : bN s = ns 25 := hs.2.2.2.2.1.symm
  have hw2 : ns 2 ≤ 8 := by rw [← e2]; exact hw.1
  have hw7 : ns 7 ≤ 10 := by rw [← e7]; exact hw.2.2.1.1
  have hw17 : ns 17 ≤ 6 := by rw [← e17]; exact hw.2.2.2.2.1.1
  have hw25 : ns 25 ≤ 6 := by rw [← e25]; exact hw.2.2.2.2.2.1
  refine v_aload_n C 0 rfl dX5_account_0 rfl ?_
  refine v_iload_n C 1 rfl dX5_account_1 rfl ?_
  refine v_callS (rest := [.ref m]) C (c_X5_isAccount l hl G  a h ) S_X5_96 rfl rfl (Nat.le_of_ble_eq_true rfl) ⟨Nat.le_of_ble_eq_true rfl, Nat.le_of_ble_eq_true rfl⟩ ⟨Nat.le_of_ble_eq_true rfl, Nat.le_of_ble_eq_true rfl⟩ dX5_account_2 (fun i1 h1 q1 => ?_)
  obtain ⟨e1, rfl⟩ := q1
  by_cases c1 : inN a 6
  · rw [zb_t c1] at e1; subst e1
    obtain ⟨j2, hj2, en2⟩ := inN.nat c1 (by omega)
    subst en2
    refine v_if_ne (tgt := 12) C dX5_account_5 (by decide) (fun c3 => ?_) (fun c3 => absurd c3 (by decide))
    refine v_aload_n C 0 rfl dX5_account_12 rfl ?_
    refine v_get (v := .int (nI (ns 2))) C F_X5_105 hm.1 rfl dX5_account_13 ?_
    refine v_bipush (v := 8) C dX5_account_16 (by decide) ?_
    refine v_icmp_ne (tgt := 25) C dX5_account_18 (by decide) (fun c4 => ?_) (fun c4 => ?_)
    · have c4 := (nk_ne (a := (ns 2)) 8 (by decide) (by omega) (by decide)).mp c4
      refine v_iconst (v := 0) C dX5_account_25 (by decide) ?_
      refine v_put C (mC ad (upN ns 0 0)) P_X5_85 hm.1 rfl rfl rfl (Nat.le_of_ble_eq_true rfl) dX5_account_26 (v_nw (fun h5 eh5 => ?_))
      have hm5 := hm.putS 0 0 rfl eh5
      refine v_aload_n C 0 rfl dX5_account_29 rfl ?_
      refine v_get (v := .int (nI 0)) C F_X5_85 hm5.1 rfl dX5_account_30 ?_
      refine v_if_le (tgt := 40) C dX5_account_33 (by decide) (fun c6 => ?_) (fun c6 => absurd c6 (by decide))
      refine v_aload_n C 0 rfl dX5_account_40 rfl ?_
      refine v_iconst (v := 4) C dX5_account_41 (by decide) ?_
      refine v_iload_n C 1 rfl dX5_account_42 rfl ?_
      refine v_iconst (v := 1) C dX5_account_43 (by decide) ?_
      refine v_callV (rest := []) C (c_X5_pushes l hl G m ad (upN ns 0 0) na ia la h0 4 j2 1 h5 hm5 (show ns 2 < 8 by omega)) K_X5_112 hm5.1 rfl rfl (Nat.le_of_ble_eq_true rfl) ⟨Nat.le_of_ble_eq_true rfl, Nat.le_of_ble_eq_true rfl⟩ ⟨Nat.le_of_ble_eq_true rfl, Nat.le_of_ble_eq_true rfl⟩ dX5_account_44 (fun i7 h7 q7 => ?_)
      obtain ⟨e7, hm7⟩ := q7; subst e7
      have ek : (kAccount s (nI j2)) = 0 := by simp [kAccount, inN, wth, c1, c4, e2]
      exact v_iret C hQ hr rfl (Nat.le_of_ble_eq_true rfl) (Nat.le_of_ble_eq_true rfl) dX5_account_47 (Or.inl ⟨ek, ⟨_, _, _, _, hm7, (by rw [cl_nI (by omega)]; exact hs.push hw rfl rfl rfl rfl), rfl⟩, (by rw [e2]; rfl)⟩)
    · have c4 := (nk_ne_f (a := (ns 2)) 8 (by decide) (by omega) (by decide)).mp c4
      refine v_iconst (v := 2) C dX5_account_21 (by decide) ?_
      refine v_goto (tgt := 26) C dX5_account_22 (by decide) ?_
      refine v_put C (mC ad (upN ns 0 2)) P_X5_85 hm.1 rfl rfl rfl (Nat.le_of_ble_eq_true rfl) dX5_account_26 (v_nw (fun h8 eh8 => ?_))
      have hm8 := hm.putS 0 2 rfl eh8
      refine v_aload_n C 0 rfl dX5_account_29 rfl ?_
      refine v_get (v := .int (nI 2)) C F_X5_85 hm8.1 rfl dX5_account_30 ?_
      refine v_if_le (tgt := 40) C dX5_account_33 (by decide) (fun c9 => absurd c9 (by decide)) (fun c9 => ?_)
      refine v_iconst (v := 0) C dX5_account_36 (by decide) ?_
      refine v_goto (tgt := 47) C dX5_account_37 (by decide) ?_
      have ek : (kAccount s (nI j2)) = 2 := by simp [kAccount, inN, wth, c1, c4, e2]
      exact v_iret C hQ hr rfl (Nat.le_of_ble_eq_true rfl) (Nat.le_of_ble_eq_true rfl) dX5_account_47 (Or.inr ⟨(by rw [ek]; decide), (by rw [ek]; exact ⟨_, _, _, _, hm8, hs.thr _, rfl⟩)⟩)
  · rw [zb_f c1] at e1; subst e1
    refine v_if_ne (tgt := 12) C dX5_account_5 (by decide) (fun c10 => absurd c10 (by decide)) (fun c10 => ?_)
    refine v_iconst (v := 1) C dX5_account_8 (by decide) ?_
    refine v_goto (tgt := 26) C dX5_account_9 (by decide) ?_
    refine v_put C (mC ad (upN ns 0 1)) P_X5_85 hm.1 rfl rfl rfl (Nat.le_of_ble_eq_true rfl) dX5_account_26 (v_nw (fun h11 eh11 => ?_))
    have hm11 := hm.putS 0 1 rfl eh11
    refine v_aload_n C 0 rfl dX5_account_29 rfl ?_
    refine v_get (v := .int (nI 1)) C F_X5_85 hm11.1 rfl dX5_account_30 ?_
    refine v_if_le (tgt := 40) C dX5_account_33 (by decide) (fun c12 => absurd c12 (by decide)) (fun c12 => ?_)
    refine v_iconst (v := 0) C dX5_account_36 (by decide) ?_
    refine v_goto (tgt := 47) C dX5_account_37 (by decide) ?_
    have ek : (kAccount s a) = 1 := by simp [kAccount, inN, wth, c1, e2]
    exact v_iret C hQ hr rfl (Nat.le_of_ble_eq_true rfl) (Nat.le_of_ble_eq_true rfl) dX5_account_47 (Or.inr ⟨(by rw [ek]; decide), (by rw [ek]; exact ⟨_, _, _, _, hm11, hs.thr _, rfl⟩)⟩)
set_option maxHeartbeats 4000000 in
set_option maxRecDepth 100000 in
theorem c_X5_number (l : Launch) (hl : l.stackTraces = false) (G : zG) (m : Nat) (ad : Nat → Nat) (ns : Nat → Nat) (na : Nat → Nat → Nat) (ia : Nat → Nat → Int32) (la : Nat → Nat → Int64) (h0 : zH) (s : ZS) (v : Int32) (h : zH) (hm : MR G h0 h m ad ns na ia la) (hs : MS s ns na ia la) (hw : WFs s)  : zMet eI l yX5_number cX5_number 2 (some .int) 14 0 0 G [.ref m, .int v] h (fun res h2 => ((kNumber s v) = 0 ∧ MO G h0 h2 m ad (nPush s ([(5, cl v)], 1)) 0 ∧ res = nI ((oS s).length + 1)) ∨ ((kNumber s v) ≠ 0 ∧ MO G h0 h2 m ad s (kNumber s v))) := by
  refine con_of hl RX5 rfl (by decide +kernel) [(0, .ref m), (1, .int v)] rfl (Nat.le_of_ble_eq_true rfl) ?_
  intro zp ze zs zm zargs zbelow zmeth zc C hr hin Q hQ
  have e2 : (oS s).length = ns 2 := hs.2.1.1.symm
  have e7 : oN s = ns 7 := hs.2.2.1.1.symm
  have e17 : rN s = ns 17 := hs.2.2.2.1.1.symm
  have e25 : bN s = ns 25 := hs.2.2.2.2.1.symm
  have hw2 : ns 2 ≤ 8 := by rw [← e2]; exact hw.1
  have hw7 : ns 7 ≤ 10 := by rw [← e7]; exact hw.2.2.1.1
  have hw17 : ns 17 ≤ 6 := by rw [← e17]; exact hw.2.2.2.2.1.1
  have hw25 : ns 25 ≤ 6 := by rw [← e25]; exact hw.2.2.2.2.2.1
  refine v_aload_n C 0 rfl dX5_number_0 rfl ?_
  refine v_iload_n C 1 rfl dX5_number_1 rfl ?_
  refine v_iconst (v := 0) C dX5_number_2 (by decide) ?_
  refine v_ldc C KO_X5_104 dX5_number_3 ?_
  refine v_callS (rest := [.ref m]) C (c_X5_isIn l hl G  v 0 1000000 h ) S_X5_89 rfl rfl (Nat.le_of_ble_eq_true rfl) ⟨Nat.le_of_ble_eq_true rfl, Nat.le_of_ble_eq_true rfl⟩ ⟨Nat.le_of_ble_eq_true rfl, Nat.le_of_ble_eq_true rfl⟩ dX5_number_5 (fun i1 h1 q1 => ?_)
  obtain ⟨e1, rfl⟩ := q1
  by_cases c1 : wth v 0 1000000
  · rw [zb_t c1] at e1; subst e1
    obtain ⟨j2, hj2, en2⟩ := wth_nat (n := 1000000) c1 (by decide) (by decide)
    subst en2
    refine v_if_ne (tgt := 15) C dX5_number_8 (by decide) (fun c3 => ?_) (fun c3 => absurd c3 (by decide))
    refine v_aload_n C 0 rfl dX5_number_15 rfl ?_
    refine v_get (v := .int (nI (ns 2))) C F_X5_105 hm.1 rfl dX5_number_16 ?_
    refine v_bipush (v := 8) C dX5_number_19 (by decide) ?_
    refine v_icmp_ne (tgt := 28) C dX5_number_21 (by decide) (fun c4 => ?_) (fun c4 => ?_)
    · have c4 := (nk_ne (a := (ns 2)) 8 (by decide) (by omega) (by decide)).mp c4
      refine v_iconst (v := 0) C dX5_number_28 (by decide) ?_
      refine v_put C (mC ad (upN ns 0 0)) P_X5_85 hm.1 rfl rfl rfl (Nat.le_of_ble_eq_true rfl) dX5_number_29 (v_nw (fun h5 eh5 => ?_))
      have hm5 := hm.putS 0 0 rfl eh5
      refine v_aload_n C 0 rfl dX5_number_32 rfl ?_
      refine v_get (v := .int (nI 0)) C F_X5_85 hm5.1 rfl dX5_number_33 ?_
      refine v_if_le (tgt := 43) C dX5_number_36 (by decide) (fun c6 => ?_) (fun c6 => absurd c6 (by decide))
      refine v_aload_n C 0 rfl dX5_number_43 rfl ?_
      refine v_iconst (v := 5) C dX5_number_44 (by decide) ?_
      refine v_iload_n C 1 rfl dX5_number_45 rfl ?_
      refine v_iconst (v := 1) C dX5_number_46 (by decide) ?_
      refine v_callV (rest := []) C (c_X5_pushes l hl G m ad (upN ns 0 0) na ia la h0 5 j2 1 h5 hm5 (show ns 2 < 8 by omega)) K_X5_112 hm5.1 rfl rfl (Nat.le_of_ble_eq_true rfl) ⟨Nat.le_of_ble_eq_true rfl, Nat.le_of_ble_eq_true rfl⟩ ⟨Nat.le_of_ble_eq_true rfl, Nat.le_of_ble_eq_true rfl⟩ dX5_number_47 (fun i7 h7 q7 => ?_)
      obtain ⟨e7, hm7⟩ := q7; subst e7
      have ek : (kNumber s (nI j2)) = 0 := by simp [kNumber, inN, wth, c1, c4, e2]
      exact v_iret C hQ hr rfl (Nat.le_of_ble_eq_true rfl) (Nat.le_of_ble_eq_true rfl) dX5_number_50 (Or.inl ⟨ek, ⟨_, _, _, _, hm7, (by rw [cl_nI (by omega)]; exact hs.push hw rfl rfl rfl rfl), rfl⟩, (by rw [e2]; rfl)⟩)
    · have c4 := (nk_ne_f (a := (ns 2)) 8 (by decide) (by omega) (by decide)).mp c4
      refine v_iconst (v := 2) C dX5_number_24 (by decide) ?_
      refine v_goto (tgt := 29) C dX5_number_25 (by decide) ?_
      refine v_put C (mC ad (upN ns 0 2)) P_X5_85 hm.1 rfl rfl rfl (Nat.le_of_ble_eq_true rfl) dX5_number_29 (v_nw (fun h8 eh8 => ?_))
      have hm8 := hm.putS 0 2 rfl eh8
      refine v_aload_n C 0 rfl dX5_number_32 rfl ?_
      refine v_get (v := .int (nI 2)) C F_X5_85 hm8.1 rfl dX5_number_33 ?_
      refine v_if_le (tgt := 43) C dX5_number_36 (by decide) (fun c9 => absurd c9 (by decide)) (fun c9 => ?_)
      refine v_iconst (v := 0) C dX5_number_39 (by decide) ?_
      refine v_goto (tgt := 50) C dX5_number_40 (by decide) ?_
      have ek : (kNumber s (nI j2)) = 2 := by simp [kNumber, inN, wth, c1, c4, e2]
      exact v_iret C hQ hr rfl (Nat.le_of_ble_eq_true rfl) (Nat.le_of_ble_eq_true rfl) dX5_number_50 (Or.inr ⟨(by rw [ek]; decide), (by rw [ek]; exact ⟨_, _, _, _, hm8, hs.thr _, rfl⟩)⟩)
  · rw [zb_f c1] at e1; subst e1
    refine v_if_ne (tgt := 15) C dX5_number_8 (by decide) (fun c10 => absurd c10 (by decide)) (fun c10 => ?_)
    refine v_iconst (v := 1) C dX5_number_11 (by decide) ?_
    refine v_goto (tgt := 29) C dX5_number_12 (by decide) ?_
    refine v_put C (mC ad (upN ns 0 1)) P_X5_85 hm.1 rfl rfl rfl (Nat.le_of_ble_eq_true rfl) dX5_number_29 (v_nw (fun h11 eh11 => ?_))
    have hm11 := hm.putS 0 1 rfl eh11
    refine v_aload_n C 0 rfl dX5_number_32 rfl ?_
    refine v_get (v := .int (nI 1)) C F_X5_85 hm11.1 rfl dX5_number_33 ?_
    refine v_if_le (tgt := 43) C dX5_number_36 (by decide) (fun c12 => absurd c12 (by decide)) (fun c12 => ?_)
    refine v_iconst (v := 0) C dX5_number_39 (by decide) ?_
    refine v_goto (tgt := 50) C dX5_number_40 (by decide) ?_
    have ek : (kNumber s v) = 1 := by simp [kNumber, inN, wth, c1, e2]
    exact v_iret C hQ hr rfl (Nat.le_of_ble_eq_true rfl) (Nat.le_of_ble_eq_true rfl) dX5_number_50 (Or.inr ⟨(by rw [ek]; decide), (by rw [ek]; exact ⟨_, _, _, _, hm11, hs.thr _, rfl⟩)⟩)
set_option maxHeartbeats 4000000 in
set_option maxRecDepth 100000 in
theorem c_X5_term (l : Launch) (hl : l.stackTraces = false) (G : zG) (m : Nat) (ad : Nat → Nat) (ns : Nat → Nat) (na : Nat → Nat → Nat) (ia : Nat → Nat → Int32) (la : Nat → Nat → Int64) (h0 : zH) (s : ZS) (t : Int32) (h : zH) (hm : MR G h0 h m ad ns na ia la) (hs : MS s ns na ia la) (hw : WFs s)  : zMet eI l yX5_term cX5_term 2 (some .int) 14 0 0 G [.ref m, .int t] h (fun res h2 => ((kTerm s t) = 0 ∧ MO G h0 h2 m ad (nPush s ([(6, cl t)], oL s (cl t) + 1)) 0 ∧ res = nI ((oS s).length + 1)) ∨ ((kTerm s t) ≠ 0 ∧ MO G h0 h2 m ad s (kTerm s t))) := by
  refine con_of hl RX5 rfl (by decide +kernel) [(0, .ref m), (1, .int t)] rfl (Nat.le_of_ble_eq_true rfl) ?_
  intro zp ze zs zm zargs zbelow zmeth zc C hr hin Q hQ
  have e2 : (oS s).length = ns 2 := hs.2.1.1.symm
  have e7 : oN s = ns 7 := hs.2.2.1.1.symm
  have e17 : rN s = ns 17 := hs.2.2.2.1.1.symm
  have e25 : bN s = ns 25 := hs.2.2.2.2.1.symm
  have hw2 : ns 2 ≤ 8 := by rw [← e2]; exact hw.1
  have hw7 : ns 7 ≤ 10 := by rw [← e7]; exact hw.2.2.1.1
  have hw17 : ns 17 ≤ 6 := by rw [← e17]; exact hw.2.2.2.2.1.1
  have hw25 : ns 25 ≤ 6 := by rw [← e25]; exact hw.2.2.2.2.2.1
  refine v_aload_n C 0 rfl dX5_term_0 rfl ?_
  refine v_aload_n C 0 rfl dX5_term_1 rfl ?_
  refine v_iload_n C 1 rfl dX5_term_2 rfl ?_
  refine v_callV (rest := [.ref m]) C (c_X5_isTerm l hl G m ad ns na ia la h0 t h hm (by omega)) K_X5_116 hm.1 rfl rfl (Nat.le_of_ble_eq_true rfl) ⟨Nat.le_of_ble_eq_true rfl, Nat.le_of_ble_eq_true rfl⟩ ⟨Nat.le_of_ble_eq_true rfl, Nat.le_of_ble_eq_true rfl⟩ dX5_term_3 (fun i1 h1 q1 => ?_)
  obtain ⟨e1, rfl⟩ := q1
  by_cases c1 : inN t (ns 7)
  · rw [zb_t c1] at e1; subst e1
    obtain ⟨j2, hj2, en2⟩ := inN.nat c1 (by omega)
    subst en2
    have hL : na 8 j2 = oL s j2 := hs.2.2.1.2.1 j2 (show j2 < oN s by rw [e7]; omega)
    obtain ⟨hL1, hL2, -⟩ := hw.2.2.1.2.1 j2 (show j2 < oN s by rw [e7]; omega)
    have eL : oL s (cl (nI j2)) = na 8 j2 := by rw [cl_nI (by omega), hL]
    refine v_if_ne (tgt := 13) C dX5_term_6 (by decide) (fun c3 => ?_) (fun c3 => absurd c3 (by decide))
    refine v_iconst (v := 0) C dX5_term_13 (by decide) ?_
    refine v_put C (mC ad (upN ns 0 0)) P_X5_85 hm.1 rfl rfl rfl (Nat.le_of_ble_eq_true rfl) dX5_term_14 (v_nw (fun h4 eh4 => ?_))
    have hm4 := hm.putS 0 0 rfl eh4
    refine v_aload_n C 0 rfl dX5_term_17 rfl ?_
    refine v_get (v := .int (nI 0)) C F_X5_85 hm4.1 rfl dX5_term_18 ?_
    refine v_if_le (tgt := 26) C dX5_term_21 (by decide) (fun c5 => ?_) (fun c5 => absurd c5 (by decide))
    refine v_aload_n C 0 rfl dX5_term_26 rfl ?_
    refine v_aload_n C 0 rfl dX5_term_27 rfl ?_
    refine v_get (v := .int (nI (ns 2))) C F_X5_105 hm4.1 rfl dX5_term_28 ?_
    refine v_bipush (v := 8) C dX5_term_31 (by decide) ?_
    refine v_icmp_eq (tgt := 47) C dX5_term_33 (by decide) (fun c6 => ?_) (fun c6 => ?_)
    · have c6 := (nk_eq (a := (ns 2)) 8 (by decide) (by omega) (by decide)).mp c6
      refine v_iconst (v := 2) C dX5_term_47 (by decide) ?_
      refine v_goto (tgt := 52) C dX5_term_48 (by decide) ?_
      refine v_put C (mC ad (upN (upN ns 0 0) 0 2)) P_X5_85 hm4.1 rfl rfl rfl (Nat.le_of_ble_eq_true rfl) dX5_term_52 (v_nw (fun h7 eh7 => ?_))
      have hm7 := hm4.putS 0 2 rfl eh7
      refine v_aload_n C 0 rfl dX5_term_55 rfl ?_
      refine v_get (v := .int (nI 2)) C F_X5_85 hm7.1 rfl dX5_term_56 ?_
      refine v_if_le (tgt := 66) C dX5_term_59 (by decide) (fun c8 => absurd c8 (by decide)) (fun c8 => ?_)
      refine v_iconst (v := 0) C dX5_term_62 (by decide) ?_
      refine v_goto (tgt := 81) C dX5_term_63 (by decide) ?_
      have ek : (kTerm s (nI j2)) = 2 := by simp [kTerm, inN, wth, c1, eL, c6, e2, e7]
      exact v_iret C hQ hr rfl (Nat.le_of_ble_eq_true rfl) (Nat.le_of_ble_eq_true rfl) dX5_term_81 (Or.inr ⟨(by rw [ek]; decide), (by rw [ek]; exact ⟨_, _, _, _, hm7, hs.thr _, rfl⟩)⟩)
    · have c6 := (nk_eq_f (a := (ns 2)) 8 (by decide) (by omega) (by decide)).mp c6
      refine v_aload_n C 0 rfl dX5_term_36 rfl ?_
      refine v_get (v := .ref (ad 8)) C F_X5_25 hm4.1 rfl dX5_term_37 ?_
      refine v_iload_n C 1 rfl dX5_term_40 rfl ?_
      refine v_iald C (hm4.2.1 8 rfl) (vpin (show j2 < 10 by omega) (by decide)) dX5_term_41 (v_eqi (y := nI ((na 8) j2)) (congrArg (fun j => nI ((na 8) j)) (nI_clamp (show j2 < 2 ^ 31 by omega))) ?_)
      refine v_bipush (v := 6) C dX5_term_42 (by decide) ?_
      refine v_icmp_ne (tgt := 51) C dX5_term_44 (by decide) (fun c9 => ?_) (fun c9 => ?_)
      · have c9 := (nk_ne (a := ((na 8) j2)) 6 (by decide) (by omega) (by decide)).mp c9
        refine v_iconst (v := 0) C dX5_term_51 (by decide) ?_
        refine v_put C (mC ad (upN (upN ns 0 0) 0 0)) P_X5_85 hm4.1 rfl rfl rfl (Nat.le_of_ble_eq_true rfl) dX5_term_52 (v_nw (fun h10 eh10 => ?_))
        have hm10 := hm4.putS 0 0 rfl eh10
        refine v_aload_n C 0 rfl dX5_term_55 rfl ?_
        refine v_get (v := .int (nI 0)) C F_X5_85 hm10.1 rfl dX5_term_56 ?_
        refine v_if_le (tgt := 66) C dX5_term_59 (by decide) (fun c11 => ?_) (fun c11 => absurd c11 (by decide))
        refine v_aload_n C 0 rfl dX5_term_66 rfl ?_
        refine v_bipush (v := 6) C dX5_term_67 (by decide) ?_
        refine v_iload_n C 1 rfl dX5_term_69 rfl ?_
        refine v_aload_n C 0 rfl dX5_term_70 rfl ?_
        refine v_get (v := .ref (ad 8)) C F_X5_25 hm10.1 rfl dX5_term_71 ?_
        refine v_iload_n C 1 rfl dX5_term_74 rfl ?_
        refine v_iald C (hm10.2.1 8 rfl) (vpin (show j2 < 10 by omega) (by decide)) dX5_term_75 (v_eqi (y := nI ((na 8) j2)) (congrArg (fun j => nI ((na 8) j)) (nI_clamp (show j2 < 2 ^ 31 by omega))) ?_)
        refine v_iconst (v := 1) C dX5_term_76 (by decide) ?_
        refine v_iadd C dX5_term_77 (v_eqi (nI_adk ((na 8) j2) 1 (by decide)) ?_)
        refine v_callV (rest := []) C (c_X5_pushes l hl G m ad (upN (upN ns 0 0) 0 0) na ia la h0 6 j2 (((na 8) j2) + 1) h10 hm10 (show ns 2 < 8 by omega)) K_X5_112 hm10.1 rfl rfl (Nat.le_of_ble_eq_true rfl) ⟨Nat.le_of_ble_eq_true rfl, Nat.le_of_ble_eq_true rfl⟩ ⟨Nat.le_of_ble_eq_true rfl, Nat.le_of_ble_eq_true rfl⟩ dX5_term_78 (fun i13 h13 q13 => ?_)
        obtain ⟨e13, hm13⟩ := q13; subst e13
        have ek : (kTerm s (nI j2)) = 0 := by simp [kTerm, inN, wth, c1, eL, c6, c9, e2, e7]
        exact v_iret C hQ hr rfl (Nat.le_of_ble_eq_true rfl) (Nat.le_of_ble_eq_true rfl) dX5_term_81 (Or.inl ⟨ek, ⟨_, _, _, _, hm13, (by rw [cl_nI (by omega), ← hL]; exact hs.push hw rfl rfl rfl rfl), rfl⟩, (by rw [e2]; rfl)⟩)
      · have c9 := (nk_ne_f (a := ((na 8) j2)) 6 (by decide) (by omega) (by decide)).mp c9
        refine v_iconst (v := 2) C dX5_term_47 (by decide) ?_
        refine v_goto (tgt := 52) C dX5_term_48 (by decide) ?_
        refine v_put C (mC ad (upN (upN ns 0 0) 0 2)) P_X5_85 hm4.1 rfl rfl rfl (Nat.le_of_ble_eq_true rfl) dX5_term_52 (v_nw (fun h14 eh14 => ?_))
        have hm14 := hm4.putS 0 2 rfl eh14
        refine v_aload_n C 0 rfl dX5_term_55 rfl ?_
        refine v_get (v := .int (nI 2)) C F_X5_85 hm14.1 rfl dX5_term_56 ?_
        refine v_if_le (tgt := 66) C dX5_term_59 (by decide) (fun c15 => absurd c15 (by decide)) (fun c15 => ?_)
        refine v_iconst (v := 0) C dX5_term_62 (by decide) ?_
        refine v_goto (tgt := 81) C dX5_term_63 (by decide) ?_
        have ek : (kTerm s (nI j2)) = 2 := by simp [kTerm, inN, wth, c1, eL, c6, c9, e2, e7]
        exact v_iret C hQ hr rfl (Nat.le_of_ble_eq_true rfl) (Nat.le_of_ble_eq_true rfl) dX5_term_81 (Or.inr ⟨(by rw [ek]; decide), (by rw [ek]; exact ⟨_, _, _, _, hm14, hs.thr _, rfl⟩)⟩)
  · rw [zb_f c1] at e1; subst e1
    refine v_if_ne (tgt := 13) C dX5_term_6 (by decide) (fun c16 => absurd c16 (by decide)) (fun c16 => ?_)
    refine v_iconst (v := 1) C dX5_term_9 (by decide) ?_
    refine v_goto (tgt := 14) C dX5_term_10 (by decide) ?_
    refine v_put C (mC ad (upN ns 0 1)) P_X5_85 hm.1 rfl rfl rfl (Nat.le_of_ble_eq_true rfl) dX5_term_14 (v_nw (fun h17 eh17 => ?_))
    have hm17 := hm.putS 0 1 rfl eh17
    refine v_aload_n C 0 rfl dX5_term_17 rfl ?_
    refine v_get (v := .int (nI 1)) C F_X5_85 hm17.1 rfl dX5_term_18 ?_
    refine v_if_le (tgt := 26) C dX5_term_21 (by decide) (fun c18 => absurd c18 (by decide)) (fun c18 => ?_)
    refine v_iconst (v := 0) C dX5_term_24 (by decide) ?_
    have ek : (kTerm s t) = 1 := by simp [kTerm, inN, wth, c1, e2, e7]
    exact v_iret C hQ hr rfl (Nat.le_of_ble_eq_true rfl) (Nat.le_of_ble_eq_true rfl) dX5_term_25 (Or.inr ⟨(by rw [ek]; decide), (by rw [ek]; exact ⟨_, _, _, _, hm17, hs.thr _, rfl⟩)⟩)
set_option maxHeartbeats 4000000 in
set_option maxRecDepth 100000 in
theorem c_X5_canGrow (l : Launch) (hl : l.stackTraces = false) (G : zG) (m : Nat) (ad : Nat → Nat) (ns : Nat → Nat) (na : Nat → Nat → Nat) (ia : Nat → Nat → Int32) (la : Nat → Nat → Int64) (h0 : zH)  (h : zH) (hm : MR G h0 h m ad ns na ia la) (h8 : ns 2 ≤ 8) (hb : 0 < ns 2 → na 4 (ns 2 - 1) ≤ 6) : zMet eI l yX5_canGrow cX5_canGrow 1 (some .boolean) 12 0 0 G [.ref m] h (fun r h2 => r = zb (0 < ns 2 ∧ na 4 (ns 2 - 1) < 6) ∧ h = h2) := by
  refine con_of hl RX5 rfl (by decide +kernel) [(0, .ref m)] rfl (Nat.le_of_ble_eq_true rfl) ?_
  intro zp ze zs zm zargs zbelow zmeth zc C hr hin Q hQ
  refine v_aload_n C 0 rfl dX5_canGrow_0 rfl ?_
  refine v_get (v := .int (nI (ns 2))) C F_X5_105 hm.1 rfl dX5_canGrow_1 ?_
  refine v_if_le (tgt := 27) C dX5_canGrow_4 (by decide) (fun c1 => ?_) (fun c1 => ?_)
  · have c1 := (nk_le (a := (ns 2)) 0 (by decide) (by omega) (by decide)).mp c1
    refine v_iconst (v := 0) C dX5_canGrow_27 (by decide) ?_
    exact v_iret C hQ hr rfl (Nat.le_of_ble_eq_true rfl) (Nat.le_of_ble_eq_true rfl) dX5_canGrow_28 ⟨(zb_f (fun z => by omega)).symm, rfl⟩
  · have c1 := (nk_le_f (a := (ns 2)) 0 (by decide) (by omega) (by decide)).mp c1
    have hb := hb (by omega)
    refine v_aload_n C 0 rfl dX5_canGrow_7 rfl ?_
    refine v_get (v := .ref (ad 4)) C F_X5_16 hm.1 rfl dX5_canGrow_8 ?_
    refine v_aload_n C 0 rfl dX5_canGrow_11 rfl ?_
    refine v_get (v := .int (nI (ns 2))) C F_X5_105 hm.1 rfl dX5_canGrow_12 ?_
    refine v_iconst (v := 1) C dX5_canGrow_15 (by decide) ?_
    refine v_isub C dX5_canGrow_16 (v_eqi (nI_sbk (a := (ns 2)) 1 (by decide) (by omega)) ?_)
    refine v_iald C (hm.2.1 4 rfl) (vpin (show ((ns 2) - 1) < 8 by omega) (by decide)) dX5_canGrow_17 (v_eqi (y := nI ((na 4) ((ns 2) - 1))) (congrArg (fun j => nI ((na 4) j)) (nI_clamp (show ((ns 2) - 1) < 2 ^ 31 by omega))) ?_)
    refine v_bipush (v := 6) C dX5_canGrow_18 (by decide) ?_
    refine v_icmp_ge (tgt := 27) C dX5_canGrow_20 (by decide) (fun c3 => ?_) (fun c3 => ?_)
    · have c3 := (nk_ge (a := ((na 4) ((ns 2) - 1))) 6 (by decide) (by omega) (by decide)).mp c3
      refine v_iconst (v := 0) C dX5_canGrow_27 (by decide) ?_
      exact v_iret C hQ hr rfl (Nat.le_of_ble_eq_true rfl) (Nat.le_of_ble_eq_true rfl) dX5_canGrow_28 ⟨(zb_f (fun z => by omega)).symm, rfl⟩
    · have c3 := (nk_ge_f (a := ((na 4) ((ns 2) - 1))) 6 (by decide) (by omega) (by decide)).mp c3
      refine v_iconst (v := 1) C dX5_canGrow_23 (by decide) ?_
      refine v_goto (tgt := 28) C dX5_canGrow_24 (by decide) ?_
      exact v_iret C hQ hr rfl (Nat.le_of_ble_eq_true rfl) (Nat.le_of_ble_eq_true rfl) dX5_canGrow_28 ⟨(zb_t ⟨by omega, by omega⟩).symm, rfl⟩
set_option maxHeartbeats 4000000 in
set_option maxRecDepth 100000 in
theorem c_X5_grows (l : Launch) (hl : l.stackTraces = false) (G : zG) (m : Nat) (ad : Nat → Nat) (ns : Nat → Nat) (na : Nat → Nat → Nat) (ia : Nat → Nat → Int32) (la : Nat → Nat → Int64) (h0 : zH) (k n : Nat) (h : zH) (hm : MR G h0 h m ad ns na ia la) (h8 : ns 2 ≤ 8) (h0s : 0 < ns 2) (hc : na 3 (ns 2 - 1) < 64) : zMet eI l yX5_grows cX5_grows 3 (some .int) 13 0 0 G [.ref m, .int (nI k), .int (nI n)] h (fun r h2 => r = nI (na 4 (ns 2 - 1) + 1) ∧ MR G h0 h2 m ad ns (grN na (ns 2 - 1) k n) ia la) := by
  refine con_of hl RX5 rfl (by decide +kernel) [(0, .ref m), (1, .int (nI k)), (2, .int (nI n))] rfl (Nat.le_of_ble_eq_true rfl) ?_
  intro zp ze zs zm zargs zbelow zmeth zc C hr hin Q hQ
  refine v_aload_n C 0 rfl dX5_grows_0 rfl ?_
  refine v_aload_n C 0 rfl dX5_grows_1 rfl ?_
  refine v_get (v := .int (nI (ns 2))) C F_X5_105 hm.1 rfl dX5_grows_2 ?_
  refine v_iconst (v := 1) C dX5_grows_5 (by decide) ?_
  refine v_isub C dX5_grows_6 (v_eqi (nI_sbk (a := (ns 2)) 1 (by decide) (by omega)) ?_)
  refine v_iload_n C 1 rfl dX5_grows_7 rfl ?_
  refine v_iload_n C 2 rfl dX5_grows_8 rfl ?_
  refine v_callV (rest := []) C (c_X5_adds l hl G m ad ns na ia la h0 ((ns 2) - 1) k n h hm (by omega) hc) K_X5_108 hm.1 rfl rfl (Nat.le_of_ble_eq_true rfl) ⟨Nat.le_of_ble_eq_true rfl, Nat.le_of_ble_eq_true rfl⟩ ⟨Nat.le_of_ble_eq_true rfl, Nat.le_of_ble_eq_true rfl⟩ dX5_grows_9 (fun _ h2 hm2 => ?_)
  refine v_aload_n C 0 rfl dX5_grows_12 rfl ?_
  refine v_get (v := .ref (ad 4)) C F_X5_16 hm2.1 rfl dX5_grows_13 ?_
  refine v_aload_n C 0 rfl dX5_grows_16 rfl ?_
  refine v_get (v := .int (nI (ns 2))) C F_X5_105 hm2.1 rfl dX5_grows_17 ?_
  refine v_iconst (v := 1) C dX5_grows_20 (by decide) ?_
  refine v_isub C dX5_grows_21 (v_eqi (nI_sbk (a := (ns 2)) 1 (by decide) (by omega)) ?_)
  refine v_dup2_11 C dX5_grows_22 rfl rfl ?_
  refine v_iald C (hm2.2.1 4 rfl) (vpin (show ((ns 2) - 1) < 8 by omega) (by decide)) dX5_grows_23 (v_eqi (y := nI ((na 4) ((ns 2) - 1))) (congrArg (fun j => nI ((na 4) j)) (nI_clamp (show ((ns 2) - 1) < 2 ^ 31 by omega))) ?_)
  refine v_iconst (v := 1) C dX5_grows_24 (by decide) ?_
  refine v_iadd C dX5_grows_25 (v_eqi (nI_adk ((na 4) ((ns 2) - 1)) 1 (by decide)) ?_)
  refine v_iast C (hm2.2.1 4 rfl) (vpin (show ((ns 2) - 1) < 8 by omega) (by decide)) dX5_grows_26 (v_nw (fun h5 eh5 => ?_))
  have hm5 := hm2.putN (k := 4) rfl (g := (na 4)) (i := ((ns 2) - 1)) (v := (((na 4) ((ns 2) - 1)) + 1)) (by omega) eh5
  refine v_aload_n C 0 rfl dX5_grows_27 rfl ?_
  refine v_get (v := .ref (ad 4)) C F_X5_16 hm5.1 rfl dX5_grows_28 ?_
  refine v_aload_n C 0 rfl dX5_grows_31 rfl ?_
  refine v_get (v := .int (nI (ns 2))) C F_X5_105 hm5.1 rfl dX5_grows_32 ?_
  refine v_iconst (v := 1) C dX5_grows_35 (by decide) ?_
  refine v_isub C dX5_grows_36 (v_eqi (nI_sbk (a := (ns 2)) 1 (by decide) (by omega)) ?_)
  refine v_iald C (hm5.2.1 4 rfl) (vpin (show ((ns 2) - 1) < 8 by omega) (by decide)) dX5_grows_37 (v_eqi (y := nI ((upN (na 4) ((ns 2) - 1) (((na 4) ((ns 2) - 1)) + 1)) ((ns 2) - 1))) (congrArg (fun j => nI ((upN (na 4) ((ns 2) - 1) (((na 4) ((ns 2) - 1)) + 1)) j)) (nI_clamp (show ((ns 2) - 1) < 2 ^ 31 by omega))) ?_)
  exact v_iret C hQ hr rfl (Nat.le_of_ble_eq_true rfl) (Nat.le_of_ble_eq_true rfl) dX5_grows_38 ⟨congrArg nI upN_s, hm5⟩
set_option maxHeartbeats 4000000 in
set_option maxRecDepth 100000 in
theorem c_X5_share (l : Launch) (hl : l.stackTraces = false) (G : zG) (m : Nat) (ad : Nat → Nat) (ns : Nat → Nat) (na : Nat → Nat → Nat) (ia : Nat → Nat → Int32) (la : Nat → Nat → Int64) (h0 : zH) (s : ZS) (p : Int32) (h : zH) (hm : MR G h0 h m ad ns na ia la) (hs : MS s ns na ia la) (hw : WFs s)  : zMet eI l yX5_share cX5_share 2 (some .int) 14 0 0 G [.ref m, .int p] h (fun res h2 => ((kShare s p) = 0 ∧ MO G h0 h2 m ad (nShare s p) 0 ∧ res = nI ((top1 s).2 + 1)) ∨ ((kShare s p) ≠ 0 ∧ MO G h0 h2 m ad s (kShare s p))) := by
  refine con_of hl RX5 rfl (by decide +kernel) [(0, .ref m), (1, .int p)] rfl (Nat.le_of_ble_eq_true rfl) ?_
  intro zp ze zs zm zargs zbelow zmeth zc C hr hin Q hQ
  have e2 : (oS s).length = ns 2 := hs.2.1.1.symm
  have e7 : oN s = ns 7 := hs.2.2.1.1.symm
  have e17 : rN s = ns 17 := hs.2.2.2.1.1.symm
  have e25 : bN s = ns 25 := hs.2.2.2.2.1.symm
  have hw2 : ns 2 ≤ 8 := by rw [← e2]; exact hw.1
  have hw7 : ns 7 ≤ 10 := by rw [← e7]; exact hw.2.2.1.1
  have hw17 : ns 17 ≤ 6 := by rw [← e17]; exact hw.2.2.2.2.1.1
  have hw25 : ns 25 ≤ 6 := by rw [← e25]; exact hw.2.2.2.2.2.1
  have hb6 : 0 < ns 2 → na 4 (ns 2 - 1) ≤ 6 := fun z => by rw [(top1_e hs z).2.1]; exact (top1_ok hw (by omega)).2.1
  have hl63 : 0 < ns 2 → na 3 (ns 2 - 1) ≤ 63 := fun z => by rw [(top1_e hs z).1]; exact hw.len _ (by omega)
  refine v_aload_n C 0 rfl dX5_share_0 rfl ?_
  refine v_iload_n C 1 rfl dX5_share_1 rfl ?_
  refine v_iconst (v := 0) C dX5_share_2 (by decide) ?_
  refine v_bipush (v := 100) C dX5_share_3 (by decide) ?_
  refine v_callS (rest := [.ref m]) C (c_X5_isIn l hl G  p 0 100 h ) S_X5_89 rfl rfl (Nat.le_of_ble_eq_true rfl) ⟨Nat.le_of_ble_eq_true rfl, Nat.le_of_ble_eq_true rfl⟩ ⟨Nat.le_of_ble_eq_true rfl, Nat.le_of_ble_eq_true rfl⟩ dX5_share_5 (fun i1 h1 q1 => ?_)
  obtain ⟨e1, rfl⟩ := q1
  by_cases c1 : wth p 0 100
  · rw [zb_t c1] at e1; subst e1
    obtain ⟨j2, hj2, en2⟩ := wth_nat (n := 100) c1 (by decide) (by decide)
    subst en2
    refine v_if_ne (tgt := 15) C dX5_share_8 (by decide) (fun c3 => ?_) (fun c3 => absurd c3 (by decide))
    refine v_aload_n C 0 rfl dX5_share_15 rfl ?_
    refine v_callV (rest := [.ref m]) C (c_X5_canGrow l hl G m ad ns na ia la h0  h hm  hw2 hb6) K_X5_119 hm.1 rfl rfl (Nat.le_of_ble_eq_true rfl) ⟨Nat.le_of_ble_eq_true rfl, Nat.le_of_ble_eq_true rfl⟩ ⟨Nat.le_of_ble_eq_true rfl, Nat.le_of_ble_eq_true rfl⟩ dX5_share_16 (fun i4 h4 q4 => ?_)
    obtain ⟨e4, rfl⟩ := q4
    by_cases c4 : 0 < ns 2 ∧ na 4 (ns 2 - 1) < 6
    · rw [zb_t c4] at e4; subst e4
      have cg := (cg_iff hs hw).mp c4
      refine v_if_eq (tgt := 26) C dX5_share_19 (by decide) (fun c5 => absurd c5 (by decide)) (fun c5 => ?_)
      refine v_iconst (v := 0) C dX5_share_22 (by decide) ?_
      refine v_goto (tgt := 27) C dX5_share_23 (by decide) ?_
      refine v_put C (mC ad (upN ns 0 0)) P_X5_85 hm.1 rfl rfl rfl (Nat.le_of_ble_eq_true rfl) dX5_share_27 (v_nw (fun h6 eh6 => ?_))
      have hm6 := hm.putS 0 0 rfl eh6
      refine v_aload_n C 0 rfl dX5_share_30 rfl ?_
      refine v_get (v := .int (nI 0)) C F_X5_85 hm6.1 rfl dX5_share_31 ?_
      refine v_if_le (tgt := 41) C dX5_share_34 (by decide) (fun c7 => ?_) (fun c7 => absurd c7 (by decide))
      refine v_aload_n C 0 rfl dX5_share_41 rfl ?_
      refine v_bipush (v := 7) C dX5_share_42 (by decide) ?_
      refine v_iload_n C 1 rfl dX5_share_44 rfl ?_
      refine v_callV (rest := []) C (c_X5_grows l hl G m ad (upN ns 0 0) na ia la h0 7 j2 h6 hm6 hw2 (show 0 < ns 2 by omega) (show na 3 (ns 2 - 1) < 64 from Nat.lt_succ_of_le (hl63 (by omega)))) K_X5_123 hm6.1 rfl rfl (Nat.le_of_ble_eq_true rfl) ⟨Nat.le_of_ble_eq_true rfl, Nat.le_of_ble_eq_true rfl⟩ ⟨Nat.le_of_ble_eq_true rfl, Nat.le_of_ble_eq_true rfl⟩ dX5_share_45 (fun i8 h8 q8 => ?_)
      obtain ⟨e8, hm8⟩ := q8; subst e8
      have ek : (kShare s (nI j2)) = 0 := (if_pos c1).trans (if_neg cg)
      exact v_iret C hQ hr rfl (Nat.le_of_ble_eq_true rfl) (Nat.le_of_ble_eq_true rfl) dX5_share_48 (Or.inl ⟨ek, ⟨_, _, _, _, hm8, (by show MS (nShare s _) _ _ _ _; unfold nShare; rw [cl_nI (by omega)]; exact hs.grow hw (by omega) rfl rfl rfl rfl), rfl⟩, (congrArg (fun z => nI (z + 1)) (top1_e hs (by omega)).2.1)⟩)
    · rw [zb_f c4] at e4; subst e4
      have cg := Decidable.not_not.mp (fun z => c4 ((cg_iff hs hw).mpr z))
      refine v_if_eq (tgt := 26) C dX5_share_19 (by decide) (fun c9 => ?_) (fun c9 => absurd c9 (by decide))
      refine v_iconst (v := 2) C dX5_share_26 (by decide) ?_
      refine v_put C (mC ad (upN ns 0 2)) P_X5_85 hm.1 rfl rfl rfl (Nat.le_of_ble_eq_true rfl) dX5_share_27 (v_nw (fun h10 eh10 => ?_))
      have hm10 := hm.putS 0 2 rfl eh10
      refine v_aload_n C 0 rfl dX5_share_30 rfl ?_
      refine v_get (v := .int (nI 2)) C F_X5_85 hm10.1 rfl dX5_share_31 ?_
      refine v_if_le (tgt := 41) C dX5_share_34 (by decide) (fun c11 => absurd c11 (by decide)) (fun c11 => ?_)
      refine v_iconst (v := 0) C dX5_share_37 (by decide) ?_
      refine v_goto (tgt := 48) C dX5_share_38 (by decide) ?_
      have ek : (kShare s (nI j2)) = 2 := (if_pos c1).trans (if_pos cg)
      exact v_iret C hQ hr rfl (Nat.le_of_ble_eq_true rfl) (Nat.le_of_ble_eq_true rfl) dX5_share_48 (Or.inr ⟨(by rw [ek]; decide), (by rw [ek]; exact ⟨_, _, _, _, hm10, hs.thr _, rfl⟩)⟩)
  · rw [zb_f c1] at e1; subst e1
    refine v_if_ne (tgt := 15) C dX5_share_8 (by decide) (fun c12 => absurd c12 (by decide)) (fun c12 => ?_)
    refine v_iconst (v := 1) C dX5_share_11 (by decide) ?_
    refine v_goto (tgt := 27) C dX5_share_12 (by decide) ?_
    refine v_put C (mC ad (upN ns 0 1)) P_X5_85 hm.1 rfl rfl rfl (Nat.le_of_ble_eq_true rfl) dX5_share_27 (v_nw (fun h13 eh13 => ?_))
    have hm13 := hm.putS 0 1 rfl eh13
    refine v_aload_n C 0 rfl dX5_share_30 rfl ?_
    refine v_get (v := .int (nI 1)) C F_X5_85 hm13.1 rfl dX5_share_31 ?_
    refine v_if_le (tgt := 41) C dX5_share_34 (by decide) (fun c14 => absurd c14 (by decide)) (fun c14 => ?_)
    refine v_iconst (v := 0) C dX5_share_37 (by decide) ?_
    refine v_goto (tgt := 48) C dX5_share_38 (by decide) ?_
    have ek : (kShare s p) = 1 := if_neg c1
    exact v_iret C hQ hr rfl (Nat.le_of_ble_eq_true rfl) (Nat.le_of_ble_eq_true rfl) dX5_share_48 (Or.inr ⟨(by rw [ek]; decide), (by rw [ek]; exact ⟨_, _, _, _, hm13, hs.thr _, rfl⟩)⟩)
set_option maxHeartbeats 4000000 in
set_option maxRecDepth 100000 in
theorem c_X5_year (l : Launch) (hl : l.stackTraces = false) (G : zG) (m : Nat) (ad : Nat → Nat) (ns : Nat → Nat) (na : Nat → Nat → Nat) (ia : Nat → Nat → Int32) (la : Nat → Nat → Int64) (h0 : zH) (s : ZS)  (h : zH) (hm : MR G h0 h m ad ns na ia la) (hs : MS s ns na ia la) (hw : WFs s)  : zMet eI l yX5_year cX5_year 1 (some .int) 14 0 0 G [.ref m] h (fun res h2 => ((kYear s) = 0 ∧ MO G h0 h2 m ad (nYear s) 0 ∧ res = nI ((top1 s).2 + 1)) ∨ ((kYear s) ≠ 0 ∧ MO G h0 h2 m ad s (kYear s))) := by
  refine con_of hl RX5 rfl (by decide +kernel) [(0, .ref m)] rfl (Nat.le_of_ble_eq_true rfl) ?_
  intro zp ze zs zm zargs zbelow zmeth zc C hr hin Q hQ
  have e2 : (oS s).length = ns 2 := hs.2.1.1.symm
  have e7 : oN s = ns 7 := hs.2.2.1.1.symm
  have e17 : rN s = ns 17 := hs.2.2.2.1.1.symm
  have e25 : bN s = ns 25 := hs.2.2.2.2.1.symm
  have hw2 : ns 2 ≤ 8 := by rw [← e2]; exact hw.1
  have hw7 : ns 7 ≤ 10 := by rw [← e7]; exact hw.2.2.1.1
  have hw17 : ns 17 ≤ 6 := by rw [← e17]; exact hw.2.2.2.2.1.1
  have hw25 : ns 25 ≤ 6 := by rw [← e25]; exact hw.2.2.2.2.2.1
  have hb6 : 0 < ns 2 → na 4 (ns 2 - 1) ≤ 6 := fun z => by rw [(top1_e hs z).2.1]; exact (top1_ok hw (by omega)).2.1
  have hl63 : 0 < ns 2 → na 3 (ns 2 - 1) ≤ 63 := fun z => by rw [(top1_e hs z).1]; exact hw.len _ (by omega)
  refine v_aload_n C 0 rfl dX5_year_0 rfl ?_
  refine v_aload_n C 0 rfl dX5_year_1 rfl ?_
  refine v_callV (rest := [.ref m]) C (c_X5_canGrow l hl G m ad ns na ia la h0  h hm  hw2 hb6) K_X5_119 hm.1 rfl rfl (Nat.le_of_ble_eq_true rfl) ⟨Nat.le_of_ble_eq_true rfl, Nat.le_of_ble_eq_true rfl⟩ ⟨Nat.le_of_ble_eq_true rfl, Nat.le_of_ble_eq_true rfl⟩ dX5_year_2 (fun i1 h1 q1 => ?_)
  obtain ⟨e1, rfl⟩ := q1
  by_cases c1 : 0 < ns 2 ∧ na 4 (ns 2 - 1) < 6
  · rw [zb_t c1] at e1; subst e1
    have cg := (cg_iff hs hw).mp c1
    refine v_if_eq (tgt := 12) C dX5_year_5 (by decide) (fun c2 => absurd c2 (by decide)) (fun c2 => ?_)
    refine v_iconst (v := 0) C dX5_year_8 (by decide) ?_
    refine v_goto (tgt := 13) C dX5_year_9 (by decide) ?_
    refine v_put C (mC ad (upN ns 0 0)) P_X5_85 hm.1 rfl rfl rfl (Nat.le_of_ble_eq_true rfl) dX5_year_13 (v_nw (fun h3 eh3 => ?_))
    have hm3 := hm.putS 0 0 rfl eh3
    refine v_aload_n C 0 rfl dX5_year_16 rfl ?_
    refine v_get (v := .int (nI 0)) C F_X5_85 hm3.1 rfl dX5_year_17 ?_
    refine v_if_le (tgt := 27) C dX5_year_20 (by decide) (fun c4 => ?_) (fun c4 => absurd c4 (by decide))
    refine v_aload_n C 0 rfl dX5_year_27 rfl ?_
    refine v_bipush (v := 8) C dX5_year_28 (by decide) ?_
    refine v_iconst (v := 0) C dX5_year_30 (by decide) ?_
    refine v_callV (rest := []) C (c_X5_grows l hl G m ad (upN ns 0 0) na ia la h0 8 0 h3 hm3 hw2 (show 0 < ns 2 by omega) (show na 3 (ns 2 - 1) < 64 from Nat.lt_succ_of_le (hl63 (by omega)))) K_X5_123 hm3.1 rfl rfl (Nat.le_of_ble_eq_true rfl) ⟨Nat.le_of_ble_eq_true rfl, Nat.le_of_ble_eq_true rfl⟩ ⟨Nat.le_of_ble_eq_true rfl, Nat.le_of_ble_eq_true rfl⟩ dX5_year_31 (fun i5 h5 q5 => ?_)
    obtain ⟨e5, hm5⟩ := q5; subst e5
    have ek : (kYear s) = 0 := if_neg cg
    exact v_iret C hQ hr rfl (Nat.le_of_ble_eq_true rfl) (Nat.le_of_ble_eq_true rfl) dX5_year_34 (Or.inl ⟨ek, ⟨_, _, _, _, hm5, (by exact hs.grow hw (by omega) rfl rfl rfl rfl), rfl⟩, (congrArg (fun z => nI (z + 1)) (top1_e hs (by omega)).2.1)⟩)
  · rw [zb_f c1] at e1; subst e1
    have cg := Decidable.not_not.mp (fun z => c1 ((cg_iff hs hw).mpr z))
    refine v_if_eq (tgt := 12) C dX5_year_5 (by decide) (fun c6 => ?_) (fun c6 => absurd c6 (by decide))
    refine v_iconst (v := 1) C dX5_year_12 (by decide) ?_
    refine v_put C (mC ad (upN ns 0 1)) P_X5_85 hm.1 rfl rfl rfl (Nat.le_of_ble_eq_true rfl) dX5_year_13 (v_nw (fun h7 eh7 => ?_))
    have hm7 := hm.putS 0 1 rfl eh7
    refine v_aload_n C 0 rfl dX5_year_16 rfl ?_
    refine v_get (v := .int (nI 1)) C F_X5_85 hm7.1 rfl dX5_year_17 ?_
    refine v_if_le (tgt := 27) C dX5_year_20 (by decide) (fun c8 => absurd c8 (by decide)) (fun c8 => ?_)
    refine v_iconst (v := 0) C dX5_year_23 (by decide) ?_
    refine v_goto (tgt := 34) C dX5_year_24 (by decide) ?_
    have ek : (kYear s) = 1 := if_pos cg
    exact v_iret C hQ hr rfl (Nat.le_of_ble_eq_true rfl) (Nat.le_of_ble_eq_true rfl) dX5_year_34 (Or.inr ⟨(by rw [ek]; decide), (by rw [ek]; exact ⟨_, _, _, _, hm7, hs.thr _, rfl⟩)⟩)
theorem MS.clr {s : ZS} {ns ns2 : Nat → Nat} {na : Nat → Nat → Nat} {ia : Nat → Nat → Int32} {la : Nat → Nat → Int64} (hs : MS s ns na ia la) (e2 : ns2 2 = 0) (e7 : ns2 7 = ns 7) (e17 : ns2 17 = ns 17) (e25 : ns2 25 = ns 25) : MS (nClear s) ns2 na ia la := hs.stk ⟨e2, fun i hi => absurd hi (by simp)⟩ e7 e17 e25 (fun _ _ _ _ _ => rfl)
set_option maxHeartbeats 4000000 in
set_option maxRecDepth 100000 in
theorem c_X5_clear (l : Launch) (hl : l.stackTraces = false) (G : zG) (m : Nat) (ad : Nat → Nat) (ns : Nat → Nat) (na : Nat → Nat → Nat) (ia : Nat → Nat → Int32) (la : Nat → Nat → Int64) (h0 : zH) (s : ZS) (h : zH) (hm : MR G h0 h m ad ns na ia la) (hs : MS s ns na ia la) : zMet eI l yX5_clear cX5_clear 2 (some .int) 12 0 0 G [.ref m] h (fun r h2 => r = nI (oS s).length ∧ MO G h0 h2 m ad (nClear s) 0) := by
  refine con_of hl RX5 rfl (by decide +kernel) [(0, .ref m)] rfl (Nat.le_of_ble_eq_true rfl) ?_
  intro zp ze zs zm zargs zbelow zmeth zc C hr hin Q hQ
  have e2 : (oS s).length = ns 2 := hs.2.1.1.symm
  refine v_aload_n C 0 rfl dX5_clear_0 rfl ?_
  refine v_iconst (v := 0) C dX5_clear_1 (by decide) ?_
  refine v_put C (mC ad (upN ns 0 0)) P_X5_85 hm.1 rfl rfl rfl (Nat.le_of_ble_eq_true rfl) dX5_clear_2 (v_nw (fun h1 eh1 => ?_))
  have hm1 := hm.putS 0 0 rfl eh1
  refine v_aload_n C 0 rfl dX5_clear_5 rfl ?_
  refine v_get (v := .int (nI (ns 2))) C F_X5_105 hm1.1 rfl dX5_clear_6 ?_
  refine v_istore_n C [(1, .int (nI (ns 2))), (0, .ref m)] rfl (by decide) dX5_clear_9 rfl ?_
  refine v_aload_n C 1 rfl dX5_clear_10 rfl ?_
  refine v_iconst (v := 0) C dX5_clear_11 (by decide) ?_
  refine v_put C (mC ad (upN (upN ns 0 0) 2 0)) P_X5_105 hm1.1 rfl rfl rfl (Nat.le_of_ble_eq_true rfl) dX5_clear_12 (v_nw (fun h2 eh2 => ?_))
  have hm2 := hm1.putS 2 0 rfl eh2
  refine v_iload_n C 0 rfl dX5_clear_15 rfl ?_
  exact v_iret C hQ hr rfl (Nat.le_of_ble_eq_true rfl) (Nat.le_of_ble_eq_true rfl) dX5_clear_16 ⟨(congrArg nI e2).symm, _, _, _, _, hm2, hs.clr rfl rfl rfl rfl, rfl⟩
theorem up2_id {n : Nat → Nat → Nat} {i : Nat} : up2 n i (n i) = n := by
  funext k
  by_cases q : k = i
  · subst q; rw [up2_s]
  · rw [up2_n q]
theorem up2_id2 {n : Nat → Nat → Nat} {v : Nat → Nat} : up2 (up2 (up2 n 9 v) 10 (n 10)) 11 (n 11) = up2 n 9 v := by
  funext k
  by_cases q : k = 11
  · subst q; rw [up2_s, up2_n (by decide)]
  · by_cases z : k = 10
    · subst z; rw [up2_n q, up2_s, up2_n (by decide)]
    · rw [up2_n q, up2_n z]
set_option maxHeartbeats 4000000 in
set_option maxRecDepth 100000 in
theorem c_X5_defines (l : Launch) (hl : l.stackTraces = false) (G : zG) (m : Nat) (ad : Nat → Nat) (ns : Nat → Nat) (na : Nat → Nat → Nat) (ia : Nat → Nat → Int32) (la : Nat → Nat → Int64) (h0 : zH) (t q : Nat) (h : zH) (hm : MR G h0 h m ad ns na ia la) (h8 : ns 2 ≤ 8) (h0s : 0 < ns 2) (ht : t < 10) (hq : q < 20) (hlm : na 3 (ns 2 - 1) ≤ 63) : zMet eV l yX5_defines cX5_defines 5 none 12 0 0 G [.ref m, .int (nI t), .int (nI q)] h (fun _ h2 => ∃ f10 f11, MR G h0 h2 m ad (upN ns 2 (ns 2 - 1)) (dfN na f10 f11 (ns 2 - 1) (20 * t + q)) ia la ∧ dfC na f10 f11 (ns 2 - 1) (20 * t + q) (na 3 (ns 2 - 1))) := by
  refine con_of hl RX5 rfl (by decide +kernel) [(0, .ref m), (1, .int (nI t)), (2, .int (nI q))] rfl (Nat.le_of_ble_eq_true rfl) ?_
  intro zp ze zs zm zargs zbelow zmeth zc C hr hin Q hQ
  refine v_bipush (v := 20) C dX5_defines_0 (by decide) ?_
  refine v_iload_n C 1 rfl dX5_defines_2 rfl ?_
  refine v_imul C dX5_defines_3 (v_eqi (nI_kml t 20 (by decide)) ?_)
  refine v_iload_n C 2 rfl dX5_defines_4 rfl ?_
  refine v_iadd C dX5_defines_5 (v_eqi (nI_add (20 * t) q) ?_)
  refine v_istore_n C [(3, .int (nI ((20 * t) + q))), (0, .ref m), (1, .int (nI t)), (2, .int (nI q))] rfl (by decide) dX5_defines_6 rfl ?_
  refine v_aload_n C 1 rfl dX5_defines_7 rfl ?_
  refine v_dup C dX5_defines_8 rfl ?_
  refine v_get (v := .int (nI (ns 2))) C F_X5_105 hm.1 rfl dX5_defines_9 ?_
  refine v_iconst (v := 1) C dX5_defines_12 (by decide) ?_
  refine v_isub C dX5_defines_13 (v_eqi (nI_sbk (a := (ns 2)) 1 (by decide) (by omega)) ?_)
  refine v_put C (mC ad (upN ns 2 ((ns 2) - 1))) P_X5_105 hm.1 rfl rfl rfl (Nat.le_of_ble_eq_true rfl) dX5_defines_14 (v_nw (fun h4 eh4 => ?_))
  have hm4 := hm.putS 2 ((ns 2) - 1) rfl eh4
  refine v_aload_n C 1 rfl dX5_defines_17 rfl ?_
  refine v_get (v := .ref (ad 9)) C F_X5_28 hm4.1 rfl dX5_defines_18 ?_
  refine v_iload_n C 0 rfl dX5_defines_21 rfl ?_
  refine v_aload_n C 1 rfl dX5_defines_22 rfl ?_
  refine v_get (v := .ref (ad 3)) C F_X5_13 hm4.1 rfl dX5_defines_23 ?_
  refine v_aload_n C 1 rfl dX5_defines_26 rfl ?_
  refine v_get (v := .int (nI ((ns 2) - 1))) C F_X5_105 hm4.1 rfl dX5_defines_27 ?_
  refine v_iald C (hm4.2.1 3 rfl) (vpin (show ((ns 2) - 1) < 8 by omega) (by decide)) dX5_defines_30 (v_eqi (y := nI ((na 3) ((ns 2) - 1))) (congrArg (fun j => nI ((na 3) j)) (nI_clamp (show ((ns 2) - 1) < 2 ^ 31 by omega))) ?_)
  refine v_iast C (hm4.2.1 9 rfl) (vpin (show ((20 * t) + q) < 200 by omega) (by decide)) dX5_defines_31 (v_nw (fun h5 eh5 => ?_))
  have hm5 := hm4.putN (k := 9) rfl (g := (na 9)) (i := ((20 * t) + q)) (v := ((na 3) ((ns 2) - 1))) (by omega) eh5
  refine v_iconst (v := 0) C dX5_defines_32 (by decide) ?_
  refine v_istore C [(4, .int 0), (3, .int (nI ((20 * t) + q))), (0, .ref m), (1, .int (nI t)), (2, .int (nI q))] rfl (by decide) dX5_defines_33 ?_
  have L6 : ∀ (d : Nat) (k : Nat) (f10 f11 : Nat → Nat) (h2 : zH), (k ≤ na 3 (ns 2 - 1)) → (MR G h0 h2 m ad (upN ns 2 (ns 2 - 1)) (up2 (up2 (up2 na 9 (upN (na 9) (20 * t + q) (na 3 (ns 2 - 1)))) 10 f10) 11 f11) ia la) → (dfC na f10 f11 (ns 2 - 1) (20 * t + q) k) → (na 3 (ns 2 - 1) + 1 ≤ k + d) → V zp l ze (rmm 12 0 0) zs zm zargs zbelow zmeth zc G 5 Q h2 (0) (0) 35 [(4, .int (nI k)), (3, .int (nI (20 * t + q))), (0, .ref m)] [] := by
    intro d
    induction d with
    | zero =>
      intro k f10 f11 h2 hk hm2 hdf hd
      exact absurd hd (by omega)
    | succ d ih6 =>
      intro k f10 f11 h2 hk hm2 hdf hd
      refine v_iload C 0 rfl dX5_defines_35 ?_
      refine v_aload_n C 2 rfl dX5_defines_37 rfl ?_
      refine v_get (v := .ref (ad 3)) C F_X5_13 hm2.1 rfl dX5_defines_38 ?_
      refine v_aload_n C 2 rfl dX5_defines_41 rfl ?_
      refine v_get (v := .int (nI (ns 2 - 1))) C F_X5_105 hm2.1 rfl dX5_defines_42 ?_
      refine v_iald C (hm2.2.1 3 rfl) (vpin (show (ns 2 - 1) < 8 by omega) (by decide)) dX5_defines_45 (v_eqi (y := nI ((na 3) (ns 2 - 1))) (congrArg (fun j => nI ((na 3) j)) (nI_clamp (show (ns 2 - 1) < 2 ^ 31 by omega))) ?_)
      refine v_icmp_ge (tgt := 109) C dX5_defines_46 (by decide) (fun c7 => ?_) (fun c7 => ?_)
      · have c7 := (nn_ge (a := k) (b := ((na 3) (ns 2 - 1))) (by omega) (by omega)).mp c7
        exact v_vret C hQ hr (Nat.le_of_ble_eq_true rfl) (Nat.le_of_ble_eq_true rfl) dX5_defines_109 (by have hk2 : k = na 3 (ns 2 - 1) := (by omega); rw [hk2] at hdf; exact ⟨f10, f11, hm2, hdf⟩)
      · have c7 := (nn_ge_f (a := k) (b := ((na 3) (ns 2 - 1))) (by omega) (by omega)).mp c7
        refine v_aload_n C 2 rfl dX5_defines_49 rfl ?_
        refine v_get (v := .ref (ad 10)) C F_X5_31 hm2.1 rfl dX5_defines_50 ?_
        refine v_bipush (v := 64) C dX5_defines_53 (by decide) ?_
        refine v_iload_n C 1 rfl dX5_defines_55 rfl ?_
        refine v_imul C dX5_defines_56 (v_eqi (nI_kml (20 * t + q) 64 (by decide)) ?_)
        refine v_iload C 0 rfl dX5_defines_57 ?_
        refine v_iadd C dX5_defines_59 (v_eqi (nI_add (64 * (20 * t + q)) k) ?_)
        refine v_aload_n C 2 rfl dX5_defines_60 rfl ?_
        refine v_get (v := .ref (ad 5)) C F_X5_19 hm2.1 rfl dX5_defines_61 ?_
        refine v_bipush (v := 64) C dX5_defines_64 (by decide) ?_
        refine v_aload_n C 2 rfl dX5_defines_66 rfl ?_
        refine v_get (v := .int (nI (ns 2 - 1))) C F_X5_105 hm2.1 rfl dX5_defines_67 ?_
        refine v_imul C dX5_defines_70 (v_eqi (nI_kml (ns 2 - 1) 64 (by decide)) ?_)
        refine v_iload C 0 rfl dX5_defines_71 ?_
        refine v_iadd C dX5_defines_73 (v_eqi (nI_add (64 * (ns 2 - 1)) k) ?_)
        refine v_iald C (hm2.2.1 5 rfl) (vpin (show ((64 * (ns 2 - 1)) + k) < 512 by omega) (by decide)) dX5_defines_74 (v_eqi (y := nI ((na 5) ((64 * (ns 2 - 1)) + k))) (congrArg (fun j => nI ((na 5) j)) (nI_clamp (show ((64 * (ns 2 - 1)) + k) < 2 ^ 31 by omega))) ?_)
        refine v_iast C (hm2.2.1 10 rfl) (vpin (show ((64 * (20 * t + q)) + k) < 12800 by omega) (by decide)) dX5_defines_75 (v_nw (fun h12 eh12 => ?_))
        have hm12 := hm2.putN (k := 10) rfl (g := f10) (i := ((64 * (20 * t + q)) + k)) (v := ((na 5) ((64 * (ns 2 - 1)) + k))) (by omega) eh12
        refine v_aload_n C 2 rfl dX5_defines_76 rfl ?_
        refine v_get (v := .ref (ad 11)) C F_X5_34 hm12.1 rfl dX5_defines_77 ?_
        refine v_bipush (v := 64) C dX5_defines_80 (by decide) ?_
        refine v_iload_n C 1 rfl dX5_defines_82 rfl ?_
        refine v_imul C dX5_defines_83 (v_eqi (nI_kml (20 * t + q) 64 (by decide)) ?_)
        refine v_iload C 0 rfl dX5_defines_84 ?_
        refine v_iadd C dX5_defines_86 (v_eqi (nI_add (64 * (20 * t + q)) k) ?_)
        refine v_aload_n C 2 rfl dX5_defines_87 rfl ?_
        refine v_get (v := .ref (ad 6)) C F_X5_22 hm12.1 rfl dX5_defines_88 ?_
        refine v_bipush (v := 64) C dX5_defines_91 (by decide) ?_
        refine v_aload_n C 2 rfl dX5_defines_93 rfl ?_
        refine v_get (v := .int (nI (ns 2 - 1))) C F_X5_105 hm12.1 rfl dX5_defines_94 ?_
        refine v_imul C dX5_defines_97 (v_eqi (nI_kml (ns 2 - 1) 64 (by decide)) ?_)
        refine v_iload C 0 rfl dX5_defines_98 ?_
        refine v_iadd C dX5_defines_100 (v_eqi (nI_add (64 * (ns 2 - 1)) k) ?_)
        refine v_iald C (hm12.2.1 6 rfl) (vpin (show ((64 * (ns 2 - 1)) + k) < 512 by omega) (by decide)) dX5_defines_101 (v_eqi (y := nI ((na 6) ((64 * (ns 2 - 1)) + k))) (congrArg (fun j => nI ((na 6) j)) (nI_clamp (show ((64 * (ns 2 - 1)) + k) < 2 ^ 31 by omega))) ?_)
        refine v_iast C (hm12.2.1 11 rfl) (vpin (show ((64 * (20 * t + q)) + k) < 12800 by omega) (by decide)) dX5_defines_102 (v_nw (fun h17 eh17 => ?_))
        have hm17 := hm12.putN (k := 11) rfl (g := f11) (i := ((64 * (20 * t + q)) + k)) (v := ((na 6) ((64 * (ns 2 - 1)) + k))) (by omega) eh17
        refine v_iinc C 0 [(4, .int (nI (k + 1))), (3, .int (nI (20 * t + q))), (0, .ref m)] rfl (nI_inc k 1 (by decide)) rfl (by decide) dX5_defines_103 ?_
        refine v_goto (tgt := 35) C dX5_defines_106 (by decide) ?_
        refine v_lvp [0, 1, 2] rfl ?_
        have hmz := hm17; rw [up2_c4 (by decide)] at hmz
        exact ih6 (k + 1) _ _ h17 (by omega) hmz (hdf.step (by omega)) (by omega)
  refine v_lvp [0, 1, 2] rfl ?_
  have hmz : MR G h0 h5 m ad (upN ns 2 (ns 2 - 1)) (up2 (up2 (up2 na 9 (upN (na 9) (20 * t + q) (na 3 (ns 2 - 1)))) 10 (na 10)) 11 (na 11)) ia la := by
      rw [up2_id2]; exact hm5
  exact L6 (na 3 (ns 2 - 1) + 1) 0 (na 10) (na 11) h5 (Nat.zero_le _) hmz ⟨fun j hj => absurd hj (by omega), fun j _ => ⟨rfl, rfl⟩⟩ (by omega)
theorem nI_p1m1 (n : Nat) : nI (n + 1) - 1 = nI n := sb_m1w (by omega)
theorem MS.define {s : ZS} {ns ns2 : Nat → Nat} {na : Nat → Nat → Nat} {ia : Nat → Nat → Int32} {la : Nat → Nat → Int64} {f10 f11 : Nat → Nat} (hs : MS s ns na ia la) (hw : WFs s) (h0 : 0 < ns 2) (h7 : ns 7 < 10) (e2 : ns2 2 = ns 2 - 1) (e7 : ns2 7 = ns 7 + 1) (e17 : ns2 17 = ns 17) (e25 : ns2 25 = ns 25) (hdf : dfC (up2 na 8 (upN (na 8) (ns 7) (na 4 (ns 2 - 1)))) f10 f11 (ns 2 - 1) (20 * ns 7 + 0) (na 3 (ns 2 - 1))) : MS (nDefine s) ns2 (dfN (up2 na 8 (upN (na 8) (ns 7) (na 4 (ns 2 - 1)))) f10 f11 (ns 2 - 1) (20 * ns 7 + 0)) ia la := by
  have hn : ns 7 = oN s := hs.2.2.1.1
  obtain ⟨t3, t4, t5⟩ := top1_e hs h0
  refine hs.def hw (T2 := (oN s + 1, up2 (oL s) (oN s) (top1 s).2, up3 (oD s) (oN s) 0 (some (top1 s).1))) ?_ h0 e2 e17 e25 (fun k k8 k9 k10 k11 => ?_)
  · rw [e7, hn]
    rw [t3] at hdf
    rw [← hn]
    exact MSt.put (na := na) (n := ns 7) (p := ns 2 - 1) (f10 := f10) (f11 := f11) hs.2.2.1 hw.2.2.1 h7 (by decide) t5 t3 hdf (by show upN (na 9) _ (na 3 (ns 2 - 1)) = _; rw [t3]) rfl rfl (fun i hi => by
      show upN (na 8) (ns 7) (na 4 (ns 2 - 1)) i = up2 (oL s) (ns 7) (top1 s).2 i
      by_cases q : i = ns 7
      · subst q; rw [upN_s, up2_s, t4]
      · rw [upN_n q, up2_n q]; exact hs.2.2.1.2.1 i (show i < oN s by omega))
  · rw [dfN_k k9 k10 k11, up2_n k8]
set_option maxHeartbeats 4000000 in
set_option maxRecDepth 100000 in
theorem c_X5_define (l : Launch) (hl : l.stackTraces = false) (G : zG) (m : Nat) (ad : Nat → Nat) (ns : Nat → Nat) (na : Nat → Nat → Nat) (ia : Nat → Nat → Int32) (la : Nat → Nat → Int64) (h0 : zH) (s : ZS)  (h : zH) (hm : MR G h0 h m ad ns na ia la) (hs : MS s ns na ia la) (hw : WFs s)  : zMet eI l yX5_define cX5_define 1 (some .int) 13 0 0 G [.ref m] h (fun res h2 => ((kDefine s) = 0 ∧ MO G h0 h2 m ad (nDefine s) 0 ∧ res = nI (oN s)) ∨ ((kDefine s) ≠ 0 ∧ MO G h0 h2 m ad s (kDefine s))) := by
  refine con_of hl RX5 rfl (by decide +kernel) [(0, .ref m)] rfl (Nat.le_of_ble_eq_true rfl) ?_
  intro zp ze zs zm zargs zbelow zmeth zc C hr hin Q hQ
  have e2 : (oS s).length = ns 2 := hs.2.1.1.symm
  have e7 : oN s = ns 7 := hs.2.2.1.1.symm
  have e17 : rN s = ns 17 := hs.2.2.2.1.1.symm
  have e25 : bN s = ns 25 := hs.2.2.2.2.1.symm
  have hw2 : ns 2 ≤ 8 := by rw [← e2]; exact hw.1
  have hw7 : ns 7 ≤ 10 := by rw [← e7]; exact hw.2.2.1.1
  have hw17 : ns 17 ≤ 6 := by rw [← e17]; exact hw.2.2.2.2.1.1
  have hw25 : ns 25 ≤ 6 := by rw [← e25]; exact hw.2.2.2.2.2.1
  have hb6 : 0 < ns 2 → na 4 (ns 2 - 1) ≤ 6 := fun z => by rw [(top1_e hs z).2.1]; exact (top1_ok hw (by omega)).2.1
  have hl63 : 0 < ns 2 → na 3 (ns 2 - 1) ≤ 63 := fun z => by rw [(top1_e hs z).1]; exact hw.len _ (by omega)
  refine v_aload_n C 0 rfl dX5_define_0 rfl ?_
  refine v_aload_n C 0 rfl dX5_define_1 rfl ?_
  refine v_get (v := .int (nI (ns 2))) C F_X5_105 hm.1 rfl dX5_define_2 ?_
  refine v_if_eq (tgt := 17) C dX5_define_5 (by decide) (fun c1 => ?_) (fun c1 => ?_)
  · have c1 := (nk_eq (a := (ns 2)) 0 (by decide) (by omega) (by decide)).mp c1
    refine v_iconst (v := 1) C dX5_define_17 (by decide) ?_
    refine v_goto (tgt := 22) C dX5_define_18 (by decide) ?_
    refine v_put C (mC ad (upN ns 0 1)) P_X5_85 hm.1 rfl rfl rfl (Nat.le_of_ble_eq_true rfl) dX5_define_22 (v_nw (fun h2 eh2 => ?_))
    have hm2 := hm.putS 0 1 rfl eh2
    refine v_aload_n C 0 rfl dX5_define_25 rfl ?_
    refine v_get (v := .int (nI 1)) C F_X5_85 hm2.1 rfl dX5_define_26 ?_
    refine v_if_le (tgt := 34) C dX5_define_29 (by decide) (fun c3 => absurd c3 (by decide)) (fun c3 => ?_)
    refine v_iconst (v := 0) C dX5_define_32 (by decide) ?_
    have ek : (kDefine s) = 1 := by simp [kDefine, inN, wth, c1, e2, e7]
    exact v_iret C hQ hr rfl (Nat.le_of_ble_eq_true rfl) (Nat.le_of_ble_eq_true rfl) dX5_define_33 (Or.inr ⟨(by rw [ek]; decide), (by rw [ek]; exact ⟨_, _, _, _, hm2, hs.thr _, rfl⟩)⟩)
  · have c1 := (nk_eq_f (a := (ns 2)) 0 (by decide) (by omega) (by decide)).mp c1
    refine v_aload_n C 0 rfl dX5_define_8 rfl ?_
    refine v_get (v := .int (nI (ns 7))) C F_X5_93 hm.1 rfl dX5_define_9 ?_
    refine v_bipush (v := 10) C dX5_define_12 (by decide) ?_
    refine v_icmp_ne (tgt := 21) C dX5_define_14 (by decide) (fun c4 => ?_) (fun c4 => ?_)
    · have c4 := (nk_ne (a := (ns 7)) 10 (by decide) (by omega) (by decide)).mp c4
      refine v_iconst (v := 0) C dX5_define_21 (by decide) ?_
      refine v_put C (mC ad (upN ns 0 0)) P_X5_85 hm.1 rfl rfl rfl (Nat.le_of_ble_eq_true rfl) dX5_define_22 (v_nw (fun h5 eh5 => ?_))
      have hm5 := hm.putS 0 0 rfl eh5
      refine v_aload_n C 0 rfl dX5_define_25 rfl ?_
      refine v_get (v := .int (nI 0)) C F_X5_85 hm5.1 rfl dX5_define_26 ?_
      refine v_if_le (tgt := 34) C dX5_define_29 (by decide) (fun c6 => ?_) (fun c6 => absurd c6 (by decide))
      refine v_aload_n C 0 rfl dX5_define_34 rfl ?_
      refine v_get (v := .ref (ad 8)) C F_X5_25 hm5.1 rfl dX5_define_35 ?_
      refine v_aload_n C 0 rfl dX5_define_38 rfl ?_
      refine v_get (v := .int (nI (ns 7))) C F_X5_93 hm5.1 rfl dX5_define_39 ?_
      refine v_aload_n C 0 rfl dX5_define_42 rfl ?_
      refine v_get (v := .ref (ad 4)) C F_X5_16 hm5.1 rfl dX5_define_43 ?_
      refine v_aload_n C 0 rfl dX5_define_46 rfl ?_
      refine v_get (v := .int (nI (ns 2))) C F_X5_105 hm5.1 rfl dX5_define_47 ?_
      refine v_iconst (v := 1) C dX5_define_50 (by decide) ?_
      refine v_isub C dX5_define_51 (v_eqi (nI_sbk (a := (ns 2)) 1 (by decide) (by omega)) ?_)
      refine v_iald C (hm5.2.1 4 rfl) (vpin (show ((ns 2) - 1) < 8 by omega) (by decide)) dX5_define_52 (v_eqi (y := nI ((na 4) ((ns 2) - 1))) (congrArg (fun j => nI ((na 4) j)) (nI_clamp (show ((ns 2) - 1) < 2 ^ 31 by omega))) ?_)
      refine v_iast C (hm5.2.1 8 rfl) (vpin (show (ns 7) < 10 by omega) (by decide)) dX5_define_53 (v_nw (fun h8 eh8 => ?_))
      have hm8 := hm5.putN (k := 8) rfl (g := (na 8)) (i := (ns 7)) (v := ((na 4) ((ns 2) - 1))) (by omega) eh8
      refine v_aload_n C 0 rfl dX5_define_54 rfl ?_
      refine v_dup C dX5_define_55 rfl ?_
      refine v_get (v := .int (nI (ns 7))) C F_X5_93 hm8.1 rfl dX5_define_56 ?_
      refine v_iconst (v := 1) C dX5_define_59 (by decide) ?_
      refine v_iadd C dX5_define_60 (v_eqi (nI_adk (ns 7) 1 (by decide)) ?_)
      refine v_put C (mC ad (upN (upN ns 0 0) 7 ((ns 7) + 1))) P_X5_93 hm8.1 rfl rfl rfl (Nat.le_of_ble_eq_true rfl) dX5_define_61 (v_nw (fun h10 eh10 => ?_))
      have hm10 := hm8.putS 7 ((ns 7) + 1) rfl eh10
      refine v_aload_n C 0 rfl dX5_define_64 rfl ?_
      refine v_aload_n C 0 rfl dX5_define_65 rfl ?_
      refine v_get (v := .int (nI ((ns 7) + 1))) C F_X5_93 hm10.1 rfl dX5_define_66 ?_
      refine v_iconst (v := 1) C dX5_define_69 (by decide) ?_
      refine v_isub C dX5_define_70 (v_eqi (y := (nI (ns 7))) (nI_p1m1 (ns 7)) ?_)
      refine v_iconst (v := 0) C dX5_define_71 (by decide) ?_
      refine v_callV (rest := []) C (c_X5_defines l hl G m ad (upN (upN ns 0 0) 7 ((ns 7) + 1)) (up2 na 8 (upN (na 8) (ns 7) ((na 4) ((ns 2) - 1)))) ia la h0 (ns 7) 0 h10 hm10 hw2 (show 0 < ns 2 by omega) (show ns 7 < 10 by omega) (by decide) (hl63 (by omega))) K_X5_127 hm10.1 rfl rfl (Nat.le_of_ble_eq_true rfl) ⟨Nat.le_of_ble_eq_true rfl, Nat.le_of_ble_eq_true rfl⟩ ⟨Nat.le_of_ble_eq_true rfl, Nat.le_of_ble_eq_true rfl⟩ dX5_define_72 (fun _ h12 w12 => ?_)
      obtain ⟨f10, f11, hm12, hdf⟩ := w12
      refine v_aload_n C 0 rfl dX5_define_75 rfl ?_
      refine v_get (v := .int (nI ((ns 7) + 1))) C F_X5_93 hm12.1 rfl dX5_define_76 ?_
      refine v_iconst (v := 1) C dX5_define_79 (by decide) ?_
      refine v_isub C dX5_define_80 (v_eqi (y := (nI (ns 7))) (nI_p1m1 (ns 7)) ?_)
      have ek : (kDefine s) = 0 := by simp [kDefine, inN, wth, c1, c4, e2, e7]
      exact v_iret C hQ hr rfl (Nat.le_of_ble_eq_true rfl) (Nat.le_of_ble_eq_true rfl) dX5_define_81 (Or.inl ⟨ek, ⟨_, _, _, _, hm12, (hs.define hw (by omega) (by omega) rfl rfl rfl rfl hdf), rfl⟩, (congrArg nI e7).symm⟩)
    · have c4 := (nk_ne_f (a := (ns 7)) 10 (by decide) (by omega) (by decide)).mp c4
      refine v_iconst (v := 1) C dX5_define_17 (by decide) ?_
      refine v_goto (tgt := 22) C dX5_define_18 (by decide) ?_
      refine v_put C (mC ad (upN ns 0 1)) P_X5_85 hm.1 rfl rfl rfl (Nat.le_of_ble_eq_true rfl) dX5_define_22 (v_nw (fun h14 eh14 => ?_))
      have hm14 := hm.putS 0 1 rfl eh14
      refine v_aload_n C 0 rfl dX5_define_25 rfl ?_
      refine v_get (v := .int (nI 1)) C F_X5_85 hm14.1 rfl dX5_define_26 ?_
      refine v_if_le (tgt := 34) C dX5_define_29 (by decide) (fun c15 => absurd c15 (by decide)) (fun c15 => ?_)
      refine v_iconst (v := 0) C dX5_define_32 (by decide) ?_
      have ek : (kDefine s) = 1 := by simp [kDefine, inN, wth, c1, c4, e2, e7]
      exact v_iret C hQ hr rfl (Nat.le_of_ble_eq_true rfl) (Nat.le_of_ble_eq_true rfl) dX5_define_33 (Or.inr ⟨(by rw [ek]; decide), (by rw [ek]; exact ⟨_, _, _, _, hm14, hs.thr _, rfl⟩)⟩)
def gI (n : Nat) : Int32 := nI n - 1
theorem gI_s (n : Nat) : nI n = gI (n + 1) := (nI_p1m1 n).symm
theorem gI_toInt {g : Nat} (h : g < 2 ^ 30) : (gI g).toInt = (g : Int) - 1 := pk_sub_toInt (b := 1) h (by decide)
theorem le_gI {n g : Nat} (hn : n < 2 ^ 30) (hg : g < 2 ^ 30) : nI n ≤ gI g ↔ n + 1 ≤ g := by
  rw [i32_le, gI_toInt hg, nI_toInt (by omega)]; omega
theorem gI_lt {n g : Nat} (hn : n < 2 ^ 30) (hg : g < 2 ^ 30) : gI g < nI n ↔ g ≤ n := by
  rw [i32_lt, gI_toInt hg, nI_toInt (by omega)]; omega
theorem gtk_take {T : List Tok} {k : Nat} (hk : k < T.length) : gtk (T.take (k + 1)) = max (gtk (T.take k)) (if (T.getD k (0, 0)).1 = 6 then (T.getD k (0, 0)).2 + 1 else 0) := by
  have e : T.take (k + 1) = T.take k ++ [T.getD k (0, 0)] := by
    rw [List.take_add_one, List.getElem?_eq_getElem hk, List.getD_eq_getElem?_getD, List.getElem?_eq_getElem hk]; rfl
  rw [e, gtk_app]
  show max _ (max _ 0) = _
  rw [Nat.max_eq_left (Nat.zero_le _)]
theorem gtk_take_le (T : List Tok) (k : Nat) : gtk (T.take k) ≤ gtk T := by
  have e : gtk (T.take k ++ T.drop k) = max (gtk (T.take k)) (gtk (T.drop k)) := gtk_app _ _
  rw [List.take_append_drop] at e; omega
theorem gtk_tok {T : List Tok} {k : Nat} (hk : k < T.length) (h6 : (T.getD k (0, 0)).1 = 6) : (T.getD k (0, 0)).2 + 1 ≤ gtk T := by
  have a := gtk_take hk
  have b := gtk_take_le T (k + 1)
  rw [if_pos h6] at a; omega
set_option maxHeartbeats 4000000 in
set_option maxRecDepth 100000 in
theorem c_X5_greatestNamed (l : Launch) (hl : l.stackTraces = false) (G : zG) (m : Nat) (ad : Nat → Nat) (ns : Nat → Nat) (na : Nat → Nat → Nat) (ia : Nat → Nat → Int32) (la : Nat → Nat → Int64) (h0 : zH) (T : List Tok) (h : zH) (hm : MR G h0 h m ad ns na ia la) (h8 : ns 2 ≤ 8) (h0s : 0 < ns 2) (hTl : na 3 (ns 2 - 1) = T.length) (hT6 : T.length ≤ 63) (hT : tkAt (na 5) (na 6) (64 * (ns 2 - 1)) T) (hg : gtk T ≤ 10) (h5 : ∀ j, j < T.length → na 5 (64 * (ns 2 - 1) + j) < 2 ^ 31) : zMet eI l yX5_greatestNamed cX5_greatestNamed 4 (some .int) 12 0 0 G [.ref m] h (fun r h2 => r = gI (gtk T) ∧ h = h2) := by
  refine con_of hl RX5 rfl (by decide +kernel) [(0, .ref m)] rfl (Nat.le_of_ble_eq_true rfl) ?_
  intro zp ze zs zm zargs zbelow zmeth zc C hr hin Q hQ
  refine v_iconst (v := (-1)) C dX5_greatestNamed_0 (by decide) ?_
  refine v_istore_n C [(1, .int (-1)), (0, .ref m)] rfl (by decide) dX5_greatestNamed_1 rfl ?_
  refine v_iconst (v := 0) C dX5_greatestNamed_2 (by decide) ?_
  refine v_istore_n C [(2, .int 0), (1, .int (-1)), (0, .ref m)] rfl (by decide) dX5_greatestNamed_3 rfl ?_
  have L1 : ∀ (d : Nat) (k : Nat), (k ≤ T.length) → (T.length + 1 ≤ k + d) → V zp l ze (rmm 12 0 0) zs zm zargs zbelow zmeth zc G 4 Q h (0) (0) 4 [(1, .int (gI (gtk (T.take k)))), (2, .int (nI k)), (0, .ref m)] [] := by
    intro d
    induction d with
    | zero =>
      intro k hk hd
      exact absurd hd (by omega)
    | succ d ih1 =>
      intro k hk hd
      refine v_iload_n C 1 rfl dX5_greatestNamed_4 rfl ?_
      refine v_aload_n C 2 rfl dX5_greatestNamed_5 rfl ?_
      refine v_get (v := .ref (ad 3)) C F_X5_13 hm.1 rfl dX5_greatestNamed_6 ?_
      refine v_aload_n C 2 rfl dX5_greatestNamed_9 rfl ?_
      refine v_get (v := .int (nI (ns 2))) C F_X5_105 hm.1 rfl dX5_greatestNamed_10 ?_
      refine v_iconst (v := 1) C dX5_greatestNamed_13 (by decide) ?_
      refine v_isub C dX5_greatestNamed_14 (v_eqi (nI_sbk (a := (ns 2)) 1 (by decide) (by omega)) ?_)
      refine v_iald C (hm.2.1 3 rfl) (vpin (show ((ns 2) - 1) < 8 by omega) (by decide)) dX5_greatestNamed_15 (v_eqi (y := nI ((na 3) ((ns 2) - 1))) (congrArg (fun j => nI ((na 3) j)) (nI_clamp (show ((ns 2) - 1) < 2 ^ 31 by omega))) ?_)
      refine v_icmp_ge (tgt := 69) C dX5_greatestNamed_16 (by decide) (fun c3 => ?_) (fun c3 => ?_)
      · have c3 := (nn_ge (a := k) (b := ((na 3) ((ns 2) - 1))) (by omega) (by omega)).mp c3
        refine v_iload_n C 0 rfl dX5_greatestNamed_69 rfl ?_
        exact v_iret C hQ hr rfl (Nat.le_of_ble_eq_true rfl) (Nat.le_of_ble_eq_true rfl) dX5_greatestNamed_70 ⟨(by have hz : k = T.length := (by omega); rw [hz, List.take_length]), rfl⟩
      · have c3 := (nn_ge_f (a := k) (b := ((na 3) ((ns 2) - 1))) (by omega) (by omega)).mp c3
        have hkl : k < T.length := by omega
        obtain ⟨hk5, hk6⟩ := hT k hkl
        have hgl := gtk_take_le T k
        have hk5b := h5 k hkl
        refine v_bipush (v := 64) C dX5_greatestNamed_19 (by decide) ?_
        refine v_aload_n C 2 rfl dX5_greatestNamed_21 rfl ?_
        refine v_get (v := .int (nI (ns 2))) C F_X5_105 hm.1 rfl dX5_greatestNamed_22 ?_
        refine v_iconst (v := 1) C dX5_greatestNamed_25 (by decide) ?_
        refine v_isub C dX5_greatestNamed_26 (v_eqi (nI_sbk (a := (ns 2)) 1 (by decide) (by omega)) ?_)
        refine v_imul C dX5_greatestNamed_27 (v_eqi (nI_kml ((ns 2) - 1) 64 (by decide)) ?_)
        refine v_iload_n C 1 rfl dX5_greatestNamed_28 rfl ?_
        refine v_iadd C dX5_greatestNamed_29 (v_eqi (nI_add (64 * ((ns 2) - 1)) k) ?_)
        refine v_istore_n C [(3, .int (nI ((64 * ((ns 2) - 1)) + k))), (1, .int (gI (gtk (T.take k)))), (2, .int (nI k)), (0, .ref m)] rfl (by decide) dX5_greatestNamed_30 rfl ?_
        refine v_aload_n C 3 rfl dX5_greatestNamed_31 rfl ?_
        refine v_get (v := .ref (ad 5)) C F_X5_19 hm.1 rfl dX5_greatestNamed_32 ?_
        refine v_iload_n C 0 rfl dX5_greatestNamed_35 rfl ?_
        refine v_iald C (hm.2.1 5 rfl) (vpin (show ((64 * ((ns 2) - 1)) + k) < 512 by omega) (by decide)) dX5_greatestNamed_36 (v_eqi (y := nI ((na 5) ((64 * ((ns 2) - 1)) + k))) (congrArg (fun j => nI ((na 5) j)) (nI_clamp (show ((64 * ((ns 2) - 1)) + k) < 2 ^ 31 by omega))) ?_)
        refine v_bipush (v := 6) C dX5_greatestNamed_37 (by decide) ?_
        refine v_icmp_ne (tgt := 61) C dX5_greatestNamed_39 (by decide) (fun c7 => ?_) (fun c7 => ?_)
        · have c7 := (nk_ne (a := ((na 5) ((64 * ((ns 2) - 1)) + k))) 6 (by decide) (by omega) (by decide)).mp c7
          have h6z : ¬ na 5 (64 * (ns 2 - 1) + k) = 6 := by omega
          refine v_iload_n C 1 rfl dX5_greatestNamed_61 rfl ?_
          refine v_istore_n C [(1, .int (gI (gtk (T.take k)))), (3, .int (nI ((64 * ((ns 2) - 1)) + k))), (2, .int (nI k)), (0, .ref m)] rfl (by decide) dX5_greatestNamed_62 rfl ?_
          refine v_iinc C 2 [(2, .int (nI (k + 1))), (1, .int (gI (gtk (T.take k)))), (3, .int (nI ((64 * ((ns 2) - 1)) + k))), (0, .ref m)] rfl (nI_inc k 1 (by decide)) rfl (by decide) dX5_greatestNamed_63 ?_
          refine v_goto (tgt := 4) C dX5_greatestNamed_66 (by decide) ?_
          refine v_lvp [1, 0, 3] rfl ?_
          rw [show gtk (T.take k) = gtk (T.take (k + 1)) by rw [gtk_take hkl, if_neg (by rw [← hk5]; exact h6z)]; omega]
          exact ih1 (k + 1) (by omega) (by omega)
        · have c7 := (nk_ne_f (a := ((na 5) ((64 * ((ns 2) - 1)) + k))) 6 (by decide) (by omega) (by decide)).mp c7
          have h6z : na 5 (64 * (ns 2 - 1) + k) = 6 := by omega
          have hk6b : na 6 (64 * (ns 2 - 1) + k) + 1 ≤ 10 := by rw [hk6]; exact Nat.le_trans (gtk_tok hkl (by rw [← hk5]; exact h6z)) hg
          refine v_aload_n C 3 rfl dX5_greatestNamed_42 rfl ?_
          refine v_get (v := .ref (ad 6)) C F_X5_22 hm.1 rfl dX5_greatestNamed_43 ?_
          refine v_iload_n C 0 rfl dX5_greatestNamed_46 rfl ?_
          refine v_iald C (hm.2.1 6 rfl) (vpin (show ((64 * ((ns 2) - 1)) + k) < 512 by omega) (by decide)) dX5_greatestNamed_47 (v_eqi (y := nI ((na 6) ((64 * ((ns 2) - 1)) + k))) (congrArg (fun j => nI ((na 6) j)) (nI_clamp (show ((64 * ((ns 2) - 1)) + k) < 2 ^ 31 by omega))) ?_)
          refine v_iload_n C 1 rfl dX5_greatestNamed_48 rfl ?_
          refine v_icmp_le (tgt := 61) C dX5_greatestNamed_49 (by decide) (fun c9 => ?_) (fun c9 => ?_)
          · have c9 := (le_gI (n := na 6 (64 * (ns 2 - 1) + k)) (by omega) (by omega)).mp c9
            refine v_iload_n C 1 rfl dX5_greatestNamed_61 rfl ?_
            refine v_istore_n C [(1, .int (gI (gtk (T.take k)))), (3, .int (nI ((64 * ((ns 2) - 1)) + k))), (2, .int (nI k)), (0, .ref m)] rfl (by decide) dX5_greatestNamed_62 rfl ?_
            refine v_iinc C 2 [(2, .int (nI (k + 1))), (1, .int (gI (gtk (T.take k)))), (3, .int (nI ((64 * ((ns 2) - 1)) + k))), (0, .ref m)] rfl (nI_inc k 1 (by decide)) rfl (by decide) dX5_greatestNamed_63 ?_
            refine v_goto (tgt := 4) C dX5_greatestNamed_66 (by decide) ?_
            refine v_lvp [1, 0, 3] rfl ?_
            rw [show gtk (T.take k) = gtk (T.take (k + 1)) by rw [gtk_take hkl, if_pos (by rw [← hk5]; exact h6z), ← hk6]; omega]
            exact ih1 (k + 1) (by omega) (by omega)
          · have c9 := (not_congr (le_gI (n := na 6 (64 * (ns 2 - 1) + k)) (by omega) (by omega))).mp c9
            refine v_aload_n C 3 rfl dX5_greatestNamed_52 rfl ?_
            refine v_get (v := .ref (ad 6)) C F_X5_22 hm.1 rfl dX5_greatestNamed_53 ?_
            refine v_iload_n C 0 rfl dX5_greatestNamed_56 rfl ?_
            refine v_iald C (hm.2.1 6 rfl) (vpin (show ((64 * ((ns 2) - 1)) + k) < 512 by omega) (by decide)) dX5_greatestNamed_57 (v_eqi (y := nI ((na 6) ((64 * ((ns 2) - 1)) + k))) (congrArg (fun j => nI ((na 6) j)) (nI_clamp (show ((64 * ((ns 2) - 1)) + k) < 2 ^ 31 by omega))) ?_)
            refine v_goto (tgt := 62) C dX5_greatestNamed_58 (by decide) ?_
            refine v_istore_n C [(1, .int (nI ((na 6) ((64 * ((ns 2) - 1)) + k)))), (3, .int (nI ((64 * ((ns 2) - 1)) + k))), (2, .int (nI k)), (0, .ref m)] rfl (by decide) dX5_greatestNamed_62 rfl ?_
            refine v_iinc C 2 [(2, .int (nI (k + 1))), (1, .int (nI ((na 6) ((64 * ((ns 2) - 1)) + k)))), (3, .int (nI ((64 * ((ns 2) - 1)) + k))), (0, .ref m)] rfl (nI_inc k 1 (by decide)) rfl (by decide) dX5_greatestNamed_63 ?_
            refine v_goto (tgt := 4) C dX5_greatestNamed_66 (by decide) ?_
            refine v_lvp [1, 0, 3] rfl ?_
            rw [gI_s (na 6 (64 * (ns 2 - 1) + k)), show na 6 (64 * (ns 2 - 1) + k) + 1 = gtk (T.take (k + 1)) by rw [gtk_take hkl, if_pos (by rw [← hk5]; exact h6z), ← hk6]; omega]
            exact ih1 (k + 1) (by omega) (by omega)
  refine v_lvp [1, 0, 2] rfl ?_
  rw [show (-1 : Int32) = gI (gtk (T.take 0)) from (show (-1 : Int32) = gI 0 by decide)]
  exact L1 (T.length + 1) 0 (Nat.zero_le _) (by omega)

set_option maxHeartbeats 4000000 in
set_option maxRecDepth 100000 in
theorem c_X5_amend (l : Launch) (hl : l.stackTraces = false) (G : zG) (m : Nat) (ad : Nat → Nat) (ns : Nat → Nat) (na : Nat → Nat → Nat) (ia : Nat → Nat → Int32) (la : Nat → Nat → Int64) (h0 : zH) (s : ZS) (t q : Int32) (h : zH) (hm : MR G h0 h m ad ns na ia la) (hs : MS s ns na ia la) (hw : WFs s)  : zMet eI l yX5_amend cX5_amend 5 (some .int) 14 0 0 G [.ref m, .int t, .int q] h (fun res h2 => ((kAmend s t q) = 0 ∧ MO G h0 h2 m ad (nAmend s t q) 0 ∧ res = nI (cnt (fun z => (oD (nAmend s t q) (cl t) z).isSome) 20)) ∨ ((kAmend s t q) ≠ 0 ∧ MO G h0 h2 m ad s (kAmend s t q))) := by
  refine con_of hl RX5 rfl (by decide +kernel) [(0, .ref m), (1, .int t), (2, .int q)] rfl (Nat.le_of_ble_eq_true rfl) ?_
  intro zp ze zs zm zargs zbelow zmeth zc C hr hin Q hQ
  have e2 : (oS s).length = ns 2 := hs.2.1.1.symm
  have e7 : oN s = ns 7 := hs.2.2.1.1.symm
  have e17 : rN s = ns 17 := hs.2.2.2.1.1.symm
  have e25 : bN s = ns 25 := hs.2.2.2.2.1.symm
  have hw2 : ns 2 ≤ 8 := by rw [← e2]; exact hw.1
  have hw7 : ns 7 ≤ 10 := by rw [← e7]; exact hw.2.2.1.1
  have hw17 : ns 17 ≤ 6 := by rw [← e17]; exact hw.2.2.2.2.1.1
  have hw25 : ns 25 ≤ 6 := by rw [← e25]; exact hw.2.2.2.2.2.1
  have hb6 : 0 < ns 2 → na 4 (ns 2 - 1) ≤ 6 := fun z => by rw [(top1_e hs z).2.1]; exact (top1_ok hw (by omega)).2.1
  have hl63 : 0 < ns 2 → na 3 (ns 2 - 1) ≤ 63 := fun z => by rw [(top1_e hs z).1]; exact hw.len _ (by omega)
  refine v_aload_n C 0 rfl dX5_amend_0 rfl ?_
  refine v_aload_n C 0 rfl dX5_amend_1 rfl ?_
  refine v_iload_n C 1 rfl dX5_amend_2 rfl ?_
  refine v_callV (rest := [.ref m]) C (c_X5_isTerm l hl G m ad ns na ia la h0 t h hm (by omega)) K_X5_116 hm.1 rfl rfl (Nat.le_of_ble_eq_true rfl) ⟨Nat.le_of_ble_eq_true rfl, Nat.le_of_ble_eq_true rfl⟩ ⟨Nat.le_of_ble_eq_true rfl, Nat.le_of_ble_eq_true rfl⟩ dX5_amend_3 (fun i1 h1 q1 => ?_)
  obtain ⟨e1, rfl⟩ := q1
  by_cases c1 : inN t (ns 7)
  · rw [zb_t c1] at e1; subst e1
    obtain ⟨j2, hj2, en2⟩ := inN.nat c1 (by omega)
    subst en2
    refine v_if_eq (tgt := 20) C dX5_amend_6 (by decide) (fun c3 => absurd c3 (by decide)) (fun c3 => ?_)
    refine v_iload_n C 2 rfl dX5_amend_9 rfl ?_
    refine v_callS (rest := [.ref m]) C (c_X5_isQuarter l hl G  q h ) S_X5_100 rfl rfl (Nat.le_of_ble_eq_true rfl) ⟨Nat.le_of_ble_eq_true rfl, Nat.le_of_ble_eq_true rfl⟩ ⟨Nat.le_of_ble_eq_true rfl, Nat.le_of_ble_eq_true rfl⟩ dX5_amend_10 (fun i4 h4 q4 => ?_)
    obtain ⟨e4, rfl⟩ := q4
    by_cases c4 : inN q 20
    · rw [zb_t c4] at e4; subst e4
      obtain ⟨j5, hj5, en5⟩ := inN.nat c4 (by omega)
      subst en5
      have hL : na 8 j2 = oL s j2 := hs.2.2.1.2.1 j2 (show j2 < oN s by rw [e7]; omega)
      obtain ⟨hL1, hL2, -⟩ := hw.2.2.1.2.1 j2 (show j2 < oN s by rw [e7]; omega)
      have eC : cl (nI j2) = j2 := cl_nI (by omega)
      refine v_if_eq (tgt := 20) C dX5_amend_13 (by decide) (fun c6 => absurd c6 (by decide)) (fun c6 => ?_)
      refine v_iconst (v := 0) C dX5_amend_16 (by decide) ?_
      refine v_goto (tgt := 21) C dX5_amend_17 (by decide) ?_
      refine v_put C (mC ad (upN ns 0 0)) P_X5_85 hm.1 rfl rfl rfl (Nat.le_of_ble_eq_true rfl) dX5_amend_21 (v_nw (fun h7 eh7 => ?_))
      have hm7 := hm.putS 0 0 rfl eh7
      refine v_aload_n C 0 rfl dX5_amend_24 rfl ?_
      refine v_get (v := .int (nI 0)) C F_X5_85 hm7.1 rfl dX5_amend_25 ?_
      refine v_if_le (tgt := 33) C dX5_amend_28 (by decide) (fun c8 => ?_) (fun c8 => absurd c8 (by decide))
      refine v_aload_n C 0 rfl dX5_amend_33 rfl ?_
      refine v_aload_n C 0 rfl dX5_amend_34 rfl ?_
      refine v_get (v := .int (nI (ns 2))) C F_X5_105 hm7.1 rfl dX5_amend_35 ?_
      refine v_if_eq (tgt := 69) C dX5_amend_38 (by decide) (fun c9 => ?_) (fun c9 => ?_)
      · have c9 := (nk_eq (a := (ns 2)) 0 (by decide) (by omega) (by decide)).mp c9
        refine v_iconst (v := 2) C dX5_amend_69 (by decide) ?_
        refine v_goto (tgt := 74) C dX5_amend_70 (by decide) ?_
        refine v_put C (mC ad (upN (upN ns 0 0) 0 2)) P_X5_85 hm7.1 rfl rfl rfl (Nat.le_of_ble_eq_true rfl) dX5_amend_74 (v_nw (fun h10 eh10 => ?_))
        have hm10 := hm7.putS 0 2 rfl eh10
        refine v_aload_n C 0 rfl dX5_amend_77 rfl ?_
        refine v_get (v := .int (nI 2)) C F_X5_85 hm10.1 rfl dX5_amend_78 ?_
        refine v_if_le (tgt := 86) C dX5_amend_81 (by decide) (fun c11 => absurd c11 (by decide)) (fun c11 => ?_)
        refine v_iconst (v := 0) C dX5_amend_84 (by decide) ?_
        have ek : (kAmend s (nI j2) (nI j5)) = 2 := by simp [kAmend, inN, wth, c1, c4, eC, e2, c9, e2, e7]
        exact v_iret C hQ hr rfl (Nat.le_of_ble_eq_true rfl) (Nat.le_of_ble_eq_true rfl) dX5_amend_85 (Or.inr ⟨(by rw [ek]; decide), (by rw [ek]; exact ⟨_, _, _, _, hm10, hs.thr _, rfl⟩)⟩)
      · have c9 := (nk_eq_f (a := (ns 2)) 0 (by decide) (by omega) (by decide)).mp c9
        have h0s : 0 < ns 2 := by omega
        obtain ⟨hT3, hT4, hT5⟩ := top1_e hs h0s
        have hTo := top1_ok hw (by omega)
        have hT6 := (hTo.2.2.1.len63 hTo.2.1).2
        have hb6 := hb6 h0s
        have hTg : gtk (top1 s).1 ≤ 10 := Nat.le_trans hTo.2.2.2 hw.2.2.1.1
        have hTk : ∀ j, j < (top1 s).1.length → na 5 (64 * (ns 2 - 1) + j) < 2 ^ 31 := fun j hj => by rw [(hT5 j hj).1]; have := (hTo.2.2.1.tokj hj).1; omega
        refine v_aload_n C 0 rfl dX5_amend_41 rfl ?_
        refine v_get (v := .ref (ad 4)) C F_X5_16 hm7.1 rfl dX5_amend_42 ?_
        refine v_aload_n C 0 rfl dX5_amend_45 rfl ?_
        refine v_get (v := .int (nI (ns 2))) C F_X5_105 hm7.1 rfl dX5_amend_46 ?_
        refine v_iconst (v := 1) C dX5_amend_49 (by decide) ?_
        refine v_isub C dX5_amend_50 (v_eqi (nI_sbk (a := (ns 2)) 1 (by decide) (by omega)) ?_)
        refine v_iald C (hm7.2.1 4 rfl) (vpin (show ((ns 2) - 1) < 8 by omega) (by decide)) dX5_amend_51 (v_eqi (y := nI ((na 4) ((ns 2) - 1))) (congrArg (fun j => nI ((na 4) j)) (nI_clamp (show ((ns 2) - 1) < 2 ^ 31 by omega))) ?_)
        refine v_aload_n C 0 rfl dX5_amend_52 rfl ?_
        refine v_get (v := .ref (ad 8)) C F_X5_25 hm7.1 rfl dX5_amend_53 ?_
        refine v_iload_n C 1 rfl dX5_amend_56 rfl ?_
        refine v_iald C (hm7.2.1 8 rfl) (vpin (show j2 < 10 by omega) (by decide)) dX5_amend_57 (v_eqi (y := nI ((na 8) j2)) (congrArg (fun j => nI ((na 8) j)) (nI_clamp (show j2 < 2 ^ 31 by omega))) ?_)
        refine v_icmp_gt (tgt := 69) C dX5_amend_58 (by decide) (fun c13 => ?_) (fun c13 => ?_)
        · have c13 := (nn_gt (a := ((na 4) ((ns 2) - 1))) (b := ((na 8) j2)) (by omega) (by omega)).mp c13
          refine v_iconst (v := 2) C dX5_amend_69 (by decide) ?_
          refine v_goto (tgt := 74) C dX5_amend_70 (by decide) ?_
          refine v_put C (mC ad (upN (upN ns 0 0) 0 2)) P_X5_85 hm7.1 rfl rfl rfl (Nat.le_of_ble_eq_true rfl) dX5_amend_74 (v_nw (fun h14 eh14 => ?_))
          have hm14 := hm7.putS 0 2 rfl eh14
          refine v_aload_n C 0 rfl dX5_amend_77 rfl ?_
          refine v_get (v := .int (nI 2)) C F_X5_85 hm14.1 rfl dX5_amend_78 ?_
          refine v_if_le (tgt := 86) C dX5_amend_81 (by decide) (fun c15 => absurd c15 (by decide)) (fun c15 => ?_)
          refine v_iconst (v := 0) C dX5_amend_84 (by decide) ?_
          have ek : (kAmend s (nI j2) (nI j5)) = 2 := by simp [kAmend, inN, wth, c1, c4, eC, e2, c9, ← hT4, ← hL, c13, e2, e7]
          exact v_iret C hQ hr rfl (Nat.le_of_ble_eq_true rfl) (Nat.le_of_ble_eq_true rfl) dX5_amend_85 (Or.inr ⟨(by rw [ek]; decide), (by rw [ek]; exact ⟨_, _, _, _, hm14, hs.thr _, rfl⟩)⟩)
        · have c13 := (nn_gt_f (a := ((na 4) ((ns 2) - 1))) (b := ((na 8) j2)) (by omega) (by omega)).mp c13
          refine v_aload_n C 0 rfl dX5_amend_61 rfl ?_
          refine v_callV (rest := [.ref m]) C (c_X5_greatestNamed l hl G m ad (upN ns 0 0) na ia la h0 (top1 s).1 h7 hm7 hw2 (show 0 < ns 2 from h0s) hT3 hT6 hT5 hTg hTk) K_X5_131 hm7.1 rfl rfl (Nat.le_of_ble_eq_true rfl) ⟨Nat.le_of_ble_eq_true rfl, Nat.le_of_ble_eq_true rfl⟩ ⟨Nat.le_of_ble_eq_true rfl, Nat.le_of_ble_eq_true rfl⟩ dX5_amend_62 (fun i16 h16 q16 => ?_)
          obtain ⟨e16, rfl⟩ := q16; subst e16
          refine v_iload_n C 1 rfl dX5_amend_65 rfl ?_
          refine v_icmp_lt (tgt := 73) C dX5_amend_66 (by decide) (fun c17 => ?_) (fun c17 => ?_)
          · have c17 := (gI_lt (n := j2) (g := gtk (top1 s).1) (by omega) (by omega)).mp c17
            refine v_iconst (v := 0) C dX5_amend_73 (by decide) ?_
            refine v_put C (mC ad (upN (upN ns 0 0) 0 0)) P_X5_85 hm7.1 rfl rfl rfl (Nat.le_of_ble_eq_true rfl) dX5_amend_74 (v_nw (fun h18 eh18 => ?_))
            have hm18 := hm7.putS 0 0 rfl eh18
            refine v_aload_n C 0 rfl dX5_amend_77 rfl ?_
            refine v_get (v := .int (nI 0)) C F_X5_85 hm18.1 rfl dX5_amend_78 ?_
            refine v_if_le (tgt := 86) C dX5_amend_81 (by decide) (fun c19 => ?_) (fun c19 => absurd c19 (by decide))
            refine v_aload_n C 0 rfl dX5_amend_86 rfl ?_
            refine v_iload_n C 1 rfl dX5_amend_87 rfl ?_
            refine v_iload_n C 2 rfl dX5_amend_88 rfl ?_
            refine v_callV (rest := []) C (c_X5_defines l hl G m ad (upN (upN ns 0 0) 0 0) na ia la h0 j2 j5 h18 hm18 hw2 h0s (by omega) (by omega) (hl63 h0s)) K_X5_127 hm18.1 rfl rfl (Nat.le_of_ble_eq_true rfl) ⟨Nat.le_of_ble_eq_true rfl, Nat.le_of_ble_eq_true rfl⟩ ⟨Nat.le_of_ble_eq_true rfl, Nat.le_of_ble_eq_true rfl⟩ dX5_amend_89 (fun _ h20 w20 => ?_)
            obtain ⟨f10, f11, hm20, hdf⟩ := w20
            refine v_iconst (v := 0) C dX5_amend_92 (by decide) ?_
            refine v_istore_n C [(3, .int 0), (0, .ref m), (1, .int (nI j2)), (2, .int (nI j5))] rfl (by decide) dX5_amend_93 rfl ?_
            refine v_iconst (v := 0) C dX5_amend_94 (by decide) ?_
            refine v_istore C [(4, .int 0), (3, .int 0), (0, .ref m), (1, .int (nI j2)), (2, .int (nI j5))] rfl (by decide) dX5_amend_95 ?_
            have hms : MS (nAmend s (nI j2) (nI j5)) (upN (upN (upN ns 0 0) 0 0) 2 ((ns 2) - 1)) (dfN na f10 f11 ((ns 2) - 1) (20 * j2 + j5)) ia la := by
                unfold nAmend; rw [eC, cl_nI (show j5 < 2 ^ 31 by omega)]
                exact hs.amend hw (by omega) (by omega) (by omega) rfl rfl rfl rfl hdf
            have hdn : ∀ i, i < 20 → ((dfN na f10 f11 ((ns 2) - 1) (20 * j2 + j5)) 9) (20 * j2 + i) = ((oD (nAmend s (nI j2) (nI j5)) j2 i).getD []).length ∧ ((dfN na f10 f11 ((ns 2) - 1) (20 * j2 + j5)) 9) (20 * j2 + i) ≤ 63 ∧ ((oD (nAmend s (nI j2) (nI j5)) j2 i).isSome = true ↔ 0 < ((dfN na f10 f11 ((ns 2) - 1) (20 * j2 + j5)) 9) (20 * j2 + i)) := fun i hi => am_dn hw hms (by omega) (show j2 < oN s by rw [e7]; omega) hi (by unfold nAmend; rw [eC])
            have L21 : ∀ (d : Nat) (i : Nat), (i ≤ 20) → (21 ≤ i + d) → V zp l ze (rmm 14 0 0) zs zm zargs zbelow zmeth zc G 5 Q h20 (0 + 0 + 0 + 0 + 0) (0 + 0 + 0 + 0 + 0) 97 [(3, .int (nI (cnt (fun z => (oD (nAmend s (nI j2) (nI j5)) j2 z).isSome) i))), (4, .int (nI i)), (1, .int (nI j2)), (0, .ref m)] [] := by
              intro d
              induction d with
              | zero =>
                intro i hi hd
                exact absurd hd (by omega)
              | succ d ih21 =>
                intro i hi hd
                refine v_iload C 1 rfl dX5_amend_97 ?_
                refine v_bipush (v := 20) C dX5_amend_99 (by decide) ?_
                refine v_icmp_ge (tgt := 133) C dX5_amend_101 (by decide) (fun c22 => ?_) (fun c22 => ?_)
                · have c22 := (nk_ge (a := i) 20 (by decide) (by omega) (by decide)).mp c22
                  refine v_iload_n C 0 rfl dX5_amend_133 rfl ?_
                  have ek : (kAmend s (nI j2) (nI j5)) = 0 := by simp [kAmend, inN, wth, c1, c4, eC, e2, c9, ← hT4, ← hL, c13, c17, c22, e2, e7]
                  exact v_iret C hQ hr rfl (Nat.le_of_ble_eq_true rfl) (Nat.le_of_ble_eq_true rfl) dX5_amend_134 (Or.inl ⟨ek, ⟨_, _, _, _, hm20, hms, rfl⟩, (by have hz : i = 20 := (by omega); rw [hz, eC])⟩)
                · have c22 := (nk_ge_f (a := i) 20 (by decide) (by omega) (by decide)).mp c22
                  refine v_iload_n C 0 rfl dX5_amend_104 rfl ?_
                  refine v_aload_n C 3 rfl dX5_amend_105 rfl ?_
                  refine v_get (v := .ref (ad 9)) C F_X5_28 hm20.1 rfl dX5_amend_106 ?_
                  refine v_bipush (v := 20) C dX5_amend_109 (by decide) ?_
                  refine v_iload_n C 2 rfl dX5_amend_111 rfl ?_
                  refine v_imul C dX5_amend_112 (v_eqi (nI_kml j2 20 (by decide)) ?_)
                  refine v_iload C 1 rfl dX5_amend_113 ?_
                  refine v_iadd C dX5_amend_115 (v_eqi (nI_add (20 * j2) i) ?_)
                  refine v_iald C (hm20.2.1 9 rfl) (vpin (show ((20 * j2) + i) < 200 by omega) (by decide)) dX5_amend_116 (v_eqi (y := nI (((dfN na f10 f11 ((ns 2) - 1) (20 * j2 + j5)) 9) ((20 * j2) + i))) (congrArg (fun j => nI (((dfN na f10 f11 ((ns 2) - 1) (20 * j2 + j5)) 9) j)) (nI_clamp (show ((20 * j2) + i) < 2 ^ 31 by omega))) ?_)
                  obtain ⟨hd1, hd2, hd3⟩ := hdn i (by omega)
                  refine v_if_le (tgt := 124) C dX5_amend_117 (by decide) (fun c25 => ?_) (fun c25 => ?_)
                  · have c25 := (nk_le (a := (((dfN na f10 f11 ((ns 2) - 1) (20 * j2 + j5)) 9) ((20 * j2) + i))) 0 (by decide) (by omega) (by decide)).mp c25
                    refine v_iconst (v := 0) C dX5_amend_124 (by decide) ?_
                    refine v_iadd C dX5_amend_125 (v_eqi (nI_adk (cnt (fun z => (oD (nAmend s (nI j2) (nI j5)) j2 z).isSome) i) 0 (by decide)) ?_)
                    refine v_istore_n C [(3, .int (nI ((cnt (fun z => (oD (nAmend s (nI j2) (nI j5)) j2 z).isSome) i) + 0))), (4, .int (nI i)), (1, .int (nI j2)), (0, .ref m)] rfl (by decide) dX5_amend_126 rfl ?_
                    refine v_iinc C 1 [(4, .int (nI (i + 1))), (3, .int (nI ((cnt (fun z => (oD (nAmend s (nI j2) (nI j5)) j2 z).isSome) i) + 0))), (1, .int (nI j2)), (0, .ref m)] rfl (nI_inc i 1 (by decide)) rfl (by decide) dX5_amend_127 ?_
                    refine v_goto (tgt := 97) C dX5_amend_130 (by decide) ?_
                    refine v_lvp [1, 0, 2, 3] rfl ?_
                    rw [show cnt (fun z => (oD (nAmend s (nI j2) (nI j5)) j2 z).isSome) i + 0 = cnt (fun z => (oD (nAmend s (nI j2) (nI j5)) j2 z).isSome) (i + 1) from (by show _ = cnt _ i + _; rw [if_neg (fun z => by have := hd3.mp z; omega)])]
                    exact ih21 (i + 1) (by omega) (by omega)
                  · have c25 := (nk_le_f (a := (((dfN na f10 f11 ((ns 2) - 1) (20 * j2 + j5)) 9) ((20 * j2) + i))) 0 (by decide) (by omega) (by decide)).mp c25
                    refine v_iconst (v := 1) C dX5_amend_120 (by decide) ?_
                    refine v_goto (tgt := 125) C dX5_amend_121 (by decide) ?_
                    refine v_iadd C dX5_amend_125 (v_eqi (nI_adk (cnt (fun z => (oD (nAmend s (nI j2) (nI j5)) j2 z).isSome) i) 1 (by decide)) ?_)
                    refine v_istore_n C [(3, .int (nI ((cnt (fun z => (oD (nAmend s (nI j2) (nI j5)) j2 z).isSome) i) + 1))), (4, .int (nI i)), (1, .int (nI j2)), (0, .ref m)] rfl (by decide) dX5_amend_126 rfl ?_
                    refine v_iinc C 1 [(4, .int (nI (i + 1))), (3, .int (nI ((cnt (fun z => (oD (nAmend s (nI j2) (nI j5)) j2 z).isSome) i) + 1))), (1, .int (nI j2)), (0, .ref m)] rfl (nI_inc i 1 (by decide)) rfl (by decide) dX5_amend_127 ?_
                    refine v_goto (tgt := 97) C dX5_amend_130 (by decide) ?_
                    refine v_lvp [1, 0, 2, 3] rfl ?_
                    rw [show cnt (fun z => (oD (nAmend s (nI j2) (nI j5)) j2 z).isSome) i + 1 = cnt (fun z => (oD (nAmend s (nI j2) (nI j5)) j2 z).isSome) (i + 1) from (by show _ = cnt _ i + _; rw [if_pos (hd3.mpr (by omega))])]
                    exact ih21 (i + 1) (by omega) (by omega)
            refine v_lvp [1, 0, 3, 2] rfl ?_
            exact L21 21 0 (by omega) (by omega)
          · have c17 := (not_congr (gI_lt (n := j2) (g := gtk (top1 s).1) (by omega) (by omega))).mp c17
            refine v_iconst (v := 2) C dX5_amend_69 (by decide) ?_
            refine v_goto (tgt := 74) C dX5_amend_70 (by decide) ?_
            refine v_put C (mC ad (upN (upN ns 0 0) 0 2)) P_X5_85 hm7.1 rfl rfl rfl (Nat.le_of_ble_eq_true rfl) dX5_amend_74 (v_nw (fun h30 eh30 => ?_))
            have hm30 := hm7.putS 0 2 rfl eh30
            refine v_aload_n C 0 rfl dX5_amend_77 rfl ?_
            refine v_get (v := .int (nI 2)) C F_X5_85 hm30.1 rfl dX5_amend_78 ?_
            refine v_if_le (tgt := 86) C dX5_amend_81 (by decide) (fun c31 => absurd c31 (by decide)) (fun c31 => ?_)
            refine v_iconst (v := 0) C dX5_amend_84 (by decide) ?_
            have ek : (kAmend s (nI j2) (nI j5)) = 2 := by simp [kAmend, inN, wth, c1, c4, eC, e2, c9, ← hT4, ← hL, c13, c17, e2, e7]
            exact v_iret C hQ hr rfl (Nat.le_of_ble_eq_true rfl) (Nat.le_of_ble_eq_true rfl) dX5_amend_85 (Or.inr ⟨(by rw [ek]; decide), (by rw [ek]; exact ⟨_, _, _, _, hm30, hs.thr _, rfl⟩)⟩)
    · rw [zb_f c4] at e4; subst e4
      refine v_if_eq (tgt := 20) C dX5_amend_13 (by decide) (fun c32 => ?_) (fun c32 => absurd c32 (by decide))
      refine v_iconst (v := 1) C dX5_amend_20 (by decide) ?_
      refine v_put C (mC ad (upN ns 0 1)) P_X5_85 hm.1 rfl rfl rfl (Nat.le_of_ble_eq_true rfl) dX5_amend_21 (v_nw (fun h33 eh33 => ?_))
      have hm33 := hm.putS 0 1 rfl eh33
      refine v_aload_n C 0 rfl dX5_amend_24 rfl ?_
      refine v_get (v := .int (nI 1)) C F_X5_85 hm33.1 rfl dX5_amend_25 ?_
      refine v_if_le (tgt := 33) C dX5_amend_28 (by decide) (fun c34 => absurd c34 (by decide)) (fun c34 => ?_)
      refine v_iconst (v := 0) C dX5_amend_31 (by decide) ?_
      have ek : (kAmend s (nI j2) q) = 1 := by simp [kAmend, inN, wth, c1, c4, e2, e7]
      exact v_iret C hQ hr rfl (Nat.le_of_ble_eq_true rfl) (Nat.le_of_ble_eq_true rfl) dX5_amend_32 (Or.inr ⟨(by rw [ek]; decide), (by rw [ek]; exact ⟨_, _, _, _, hm33, hs.thr _, rfl⟩)⟩)
  · rw [zb_f c1] at e1; subst e1
    refine v_if_eq (tgt := 20) C dX5_amend_6 (by decide) (fun c35 => ?_) (fun c35 => absurd c35 (by decide))
    refine v_iconst (v := 1) C dX5_amend_20 (by decide) ?_
    refine v_put C (mC ad (upN ns 0 1)) P_X5_85 hm.1 rfl rfl rfl (Nat.le_of_ble_eq_true rfl) dX5_amend_21 (v_nw (fun h36 eh36 => ?_))
    have hm36 := hm.putS 0 1 rfl eh36
    refine v_aload_n C 0 rfl dX5_amend_24 rfl ?_
    refine v_get (v := .int (nI 1)) C F_X5_85 hm36.1 rfl dX5_amend_25 ?_
    refine v_if_le (tgt := 33) C dX5_amend_28 (by decide) (fun c37 => absurd c37 (by decide)) (fun c37 => ?_)
    refine v_iconst (v := 0) C dX5_amend_31 (by decide) ?_
    have ek : (kAmend s t q) = 1 := by simp [kAmend, inN, wth, c1, e2, e7]
    exact v_iret C hQ hr rfl (Nat.le_of_ble_eq_true rfl) (Nat.le_of_ble_eq_true rfl) dX5_amend_32 (Or.inr ⟨(by rw [ek]; decide), (by rw [ek]; exact ⟨_, _, _, _, hm36, hs.thr _, rfl⟩)⟩)

set_option maxHeartbeats 4000000 in
set_option maxRecDepth 100000 in
theorem c_X5_terms (l : Launch) (hl : l.stackTraces = false) (G : zG) (m : Nat) (ad : Nat → Nat) (ns : Nat → Nat) (na : Nat → Nat → Nat) (ia : Nat → Nat → Int32) (la : Nat → Nat → Int64) (h0 : zH) (s : ZS) (h : zH) (hm : MR G h0 h m ad ns na ia la) (hs : MS s ns na ia la) : zMet eI l yX5_terms cX5_terms 1 (some .int) 12 0 0 G [.ref m] h (fun r h2 => r = nI (oN s) ∧ MO G h0 h2 m ad s 0) := by
  refine con_of hl RX5 rfl (by decide +kernel) [(0, .ref m)] rfl (Nat.le_of_ble_eq_true rfl) ?_
  intro zp ze zs zm zargs zbelow zmeth zc C hr hin Q hQ
  refine v_aload_n C 0 rfl dX5_terms_0 rfl ?_
  refine v_iconst (v := 0) C dX5_terms_1 (by decide) ?_
  refine v_put C (mC ad (upN ns 0 0)) P_X5_85 hm.1 rfl rfl rfl (Nat.le_of_ble_eq_true rfl) dX5_terms_2 (v_nw (fun h1 eh1 => ?_))
  have hm1 := hm.putS 0 0 rfl eh1
  refine v_aload_n C 0 rfl dX5_terms_5 rfl ?_
  refine v_get (v := .int (nI (ns 7))) C F_X5_93 hm1.1 rfl dX5_terms_6 ?_
  exact v_iret C hQ hr rfl (Nat.le_of_ble_eq_true rfl) (Nat.le_of_ble_eq_true rfl) dX5_terms_9 ⟨congrArg nI hs.2.2.1.1, _, _, _, _, hm1, hs.thr _, rfl⟩
set_option maxHeartbeats 4000000 in
set_option maxRecDepth 100000 in
theorem c_X5_level (l : Launch) (hl : l.stackTraces = false) (G : zG) (m : Nat) (ad : Nat → Nat) (ns : Nat → Nat) (na : Nat → Nat → Nat) (ia : Nat → Nat → Int32) (la : Nat → Nat → Int64) (h0 : zH) (s : ZS) (t : Int32) (h : zH) (hm : MR G h0 h m ad ns na ia la) (hs : MS s ns na ia la) (hw : WFs s)  : zMet eI l yX5_level cX5_level 2 (some .int) 14 0 0 G [.ref m, .int t] h (fun res h2 => ((kIsT s t) = 0 ∧ MO G h0 h2 m ad s 0 ∧ res = nI (oL s (cl t))) ∨ ((kIsT s t) ≠ 0 ∧ MO G h0 h2 m ad s (kIsT s t))) := by
  refine con_of hl RX5 rfl (by decide +kernel) [(0, .ref m), (1, .int t)] rfl (Nat.le_of_ble_eq_true rfl) ?_
  intro zp ze zs zm zargs zbelow zmeth zc C hr hin Q hQ
  have e2 : (oS s).length = ns 2 := hs.2.1.1.symm
  have e7 : oN s = ns 7 := hs.2.2.1.1.symm
  have e17 : rN s = ns 17 := hs.2.2.2.1.1.symm
  have e25 : bN s = ns 25 := hs.2.2.2.2.1.symm
  have hw2 : ns 2 ≤ 8 := by rw [← e2]; exact hw.1
  have hw7 : ns 7 ≤ 10 := by rw [← e7]; exact hw.2.2.1.1
  have hw17 : ns 17 ≤ 6 := by rw [← e17]; exact hw.2.2.2.2.1.1
  have hw25 : ns 25 ≤ 6 := by rw [← e25]; exact hw.2.2.2.2.2.1
  refine v_aload_n C 0 rfl dX5_level_0 rfl ?_
  refine v_aload_n C 0 rfl dX5_level_1 rfl ?_
  refine v_iload_n C 1 rfl dX5_level_2 rfl ?_
  refine v_callV (rest := [.ref m]) C (c_X5_isTerm l hl G m ad ns na ia la h0 t h hm (by omega)) K_X5_116 hm.1 rfl rfl (Nat.le_of_ble_eq_true rfl) ⟨Nat.le_of_ble_eq_true rfl, Nat.le_of_ble_eq_true rfl⟩ ⟨Nat.le_of_ble_eq_true rfl, Nat.le_of_ble_eq_true rfl⟩ dX5_level_3 (fun i1 h1 q1 => ?_)
  obtain ⟨e1, rfl⟩ := q1
  by_cases c1 : inN t (ns 7)
  · rw [zb_t c1] at e1; subst e1
    obtain ⟨j2, hj2, en2⟩ := inN.nat c1 (by omega)
    subst en2
    have eCt : cl (nI j2) = j2 := cl_nI (by omega)
    refine v_if_eq (tgt := 13) C dX5_level_6 (by decide) (fun c3 => absurd c3 (by decide)) (fun c3 => ?_)
    refine v_iconst (v := 0) C dX5_level_9 (by decide) ?_
    refine v_goto (tgt := 14) C dX5_level_10 (by decide) ?_
    refine v_put C (mC ad (upN ns 0 0)) P_X5_85 hm.1 rfl rfl rfl (Nat.le_of_ble_eq_true rfl) dX5_level_14 (v_nw (fun h4 eh4 => ?_))
    have hm4 := hm.putS 0 0 rfl eh4
    refine v_aload_n C 0 rfl dX5_level_17 rfl ?_
    refine v_get (v := .int (nI 0)) C F_X5_85 hm4.1 rfl dX5_level_18 ?_
    refine v_if_le (tgt := 28) C dX5_level_21 (by decide) (fun c5 => ?_) (fun c5 => absurd c5 (by decide))
    refine v_aload_n C 0 rfl dX5_level_28 rfl ?_
    refine v_get (v := .ref (ad 8)) C F_X5_25 hm4.1 rfl dX5_level_29 ?_
    refine v_iload_n C 1 rfl dX5_level_32 rfl ?_
    refine v_iald C (hm4.2.1 8 rfl) (vpin (show j2 < 10 by omega) (by decide)) dX5_level_33 (v_eqi (y := nI ((na 8) j2)) (congrArg (fun j => nI ((na 8) j)) (nI_clamp (show j2 < 2 ^ 31 by omega))) ?_)
    have ek : (kIsT s (nI j2)) = 0 := by simp [kIsT, inN, wth, c1, e7]
    exact v_iret C hQ hr rfl (Nat.le_of_ble_eq_true rfl) (Nat.le_of_ble_eq_true rfl) dX5_level_34 (Or.inl ⟨ek, ⟨_, _, _, _, hm4, hs.thr _, rfl⟩, (by rw [eCt]; exact congrArg nI (hs.2.2.1.2.1 j2 (show j2 < oN s by rw [e7]; omega)))⟩)
  · rw [zb_f c1] at e1; subst e1
    refine v_if_eq (tgt := 13) C dX5_level_6 (by decide) (fun c6 => ?_) (fun c6 => absurd c6 (by decide))
    refine v_iconst (v := 1) C dX5_level_13 (by decide) ?_
    refine v_put C (mC ad (upN ns 0 1)) P_X5_85 hm.1 rfl rfl rfl (Nat.le_of_ble_eq_true rfl) dX5_level_14 (v_nw (fun h7 eh7 => ?_))
    have hm7 := hm.putS 0 1 rfl eh7
    refine v_aload_n C 0 rfl dX5_level_17 rfl ?_
    refine v_get (v := .int (nI 1)) C F_X5_85 hm7.1 rfl dX5_level_18 ?_
    refine v_if_le (tgt := 28) C dX5_level_21 (by decide) (fun c8 => absurd c8 (by decide)) (fun c8 => ?_)
    refine v_iconst (v := 0) C dX5_level_24 (by decide) ?_
    refine v_goto (tgt := 34) C dX5_level_25 (by decide) ?_
    have ek : (kIsT s t) = 1 := by simp [kIsT, inN, wth, c1, e7]
    exact v_iret C hQ hr rfl (Nat.le_of_ble_eq_true rfl) (Nat.le_of_ble_eq_true rfl) dX5_level_34 (Or.inr ⟨(by rw [ek]; decide), (by rw [ek]; exact ⟨_, _, _, _, hm7, hs.thr _, rfl⟩)⟩)
set_option maxHeartbeats 4000000 in
set_option maxRecDepth 100000 in
theorem c_X5_test (l : Launch) (hl : l.stackTraces = false) (G : zG) (m : Nat) (ad : Nat → Nat) (ns : Nat → Nat) (na : Nat → Nat → Nat) (ia : Nat → Nat → Int32) (la : Nat → Nat → Int64) (h0 : zH) (s : ZS) (a b : Int32) (h : zH) (hm : MR G h0 h m ad ns na ia la) (hs : MS s ns na ia la) (hw : WFs s)  : zMet eI l yX5_test cX5_test 3 (some .int) 14 0 0 G [.ref m, .int a, .int b] h (fun res h2 => ((kTest s a b) = 0 ∧ MO G h0 h2 m ad (nTest s a b) 0 ∧ res = nI (rN s)) ∨ ((kTest s a b) ≠ 0 ∧ MO G h0 h2 m ad s (kTest s a b))) := by
  refine con_of hl RX5 rfl (by decide +kernel) [(0, .ref m), (1, .int a), (2, .int b)] rfl (Nat.le_of_ble_eq_true rfl) ?_
  intro zp ze zs zm zargs zbelow zmeth zc C hr hin Q hQ
  have e2 : (oS s).length = ns 2 := hs.2.1.1.symm
  have e7 : oN s = ns 7 := hs.2.2.1.1.symm
  have e17 : rN s = ns 17 := hs.2.2.2.1.1.symm
  have e25 : bN s = ns 25 := hs.2.2.2.2.1.symm
  have hw2 : ns 2 ≤ 8 := by rw [← e2]; exact hw.1
  have hw7 : ns 7 ≤ 10 := by rw [← e7]; exact hw.2.2.1.1
  have hw17 : ns 17 ≤ 6 := by rw [← e17]; exact hw.2.2.2.2.1.1
  have hw25 : ns 25 ≤ 6 := by rw [← e25]; exact hw.2.2.2.2.2.1
  refine v_aload_n C 0 rfl dX5_test_0 rfl ?_
  refine v_aload_n C 0 rfl dX5_test_1 rfl ?_
  refine v_iload_n C 1 rfl dX5_test_2 rfl ?_
  refine v_callV (rest := [.ref m]) C (c_X5_isTerm l hl G m ad ns na ia la h0 a h hm (by omega)) K_X5_116 hm.1 rfl rfl (Nat.le_of_ble_eq_true rfl) ⟨Nat.le_of_ble_eq_true rfl, Nat.le_of_ble_eq_true rfl⟩ ⟨Nat.le_of_ble_eq_true rfl, Nat.le_of_ble_eq_true rfl⟩ dX5_test_3 (fun i1 h1 q1 => ?_)
  obtain ⟨e1, rfl⟩ := q1
  by_cases c1 : inN a (ns 7)
  · rw [zb_t c1] at e1; subst e1
    obtain ⟨j2, hj2, en2⟩ := inN.nat c1 (by omega)
    subst en2
    have eCa : cl (nI j2) = j2 := cl_nI (by omega)
    refine v_if_eq (tgt := 17) C dX5_test_6 (by decide) (fun c3 => absurd c3 (by decide)) (fun c3 => ?_)
    refine v_aload_n C 0 rfl dX5_test_9 rfl ?_
    refine v_iload_n C 2 rfl dX5_test_10 rfl ?_
    refine v_callV (rest := [.ref m]) C (c_X5_isTerm l hl G m ad ns na ia la h0 b h hm (by omega)) K_X5_116 hm.1 rfl rfl (Nat.le_of_ble_eq_true rfl) ⟨Nat.le_of_ble_eq_true rfl, Nat.le_of_ble_eq_true rfl⟩ ⟨Nat.le_of_ble_eq_true rfl, Nat.le_of_ble_eq_true rfl⟩ dX5_test_11 (fun i4 h4 q4 => ?_)
    obtain ⟨e4, rfl⟩ := q4
    by_cases c4 : inN b (ns 7)
    · rw [zb_t c4] at e4; subst e4
      obtain ⟨j5, hj5, en5⟩ := inN.nat c4 (by omega)
      subst en5
      have eCb : cl (nI j5) = j5 := cl_nI (by omega)
      refine v_if_ne (tgt := 21) C dX5_test_14 (by decide) (fun c6 => ?_) (fun c6 => absurd c6 (by decide))
      refine v_aload_n C 0 rfl dX5_test_21 rfl ?_
      refine v_get (v := .int (nI (ns 17))) C F_X5_177 hm.1 rfl dX5_test_22 ?_
      refine v_bipush (v := 6) C dX5_test_25 (by decide) ?_
      refine v_icmp_ne (tgt := 34) C dX5_test_27 (by decide) (fun c7 => ?_) (fun c7 => ?_)
      · have c7 := (nk_ne (a := (ns 17)) 6 (by decide) (by omega) (by decide)).mp c7
        refine v_iconst (v := 0) C dX5_test_34 (by decide) ?_
        refine v_put C (mC ad (upN ns 0 0)) P_X5_85 hm.1 rfl rfl rfl (Nat.le_of_ble_eq_true rfl) dX5_test_35 (v_nw (fun h8 eh8 => ?_))
        have hm8 := hm.putS 0 0 rfl eh8
        refine v_aload_n C 0 rfl dX5_test_38 rfl ?_
        refine v_get (v := .int (nI 0)) C F_X5_85 hm8.1 rfl dX5_test_39 ?_
        refine v_if_le (tgt := 47) C dX5_test_42 (by decide) (fun c9 => ?_) (fun c9 => absurd c9 (by decide))
        refine v_aload_n C 0 rfl dX5_test_47 rfl ?_
        refine v_get (v := .ref (ad 18)) C F_X5_51 hm8.1 rfl dX5_test_48 ?_
        refine v_aload_n C 0 rfl dX5_test_51 rfl ?_
        refine v_get (v := .int (nI (ns 17))) C F_X5_177 hm8.1 rfl dX5_test_52 ?_
        refine v_iload_n C 1 rfl dX5_test_55 rfl ?_
        refine v_iast C (hm8.2.1 18 rfl) (vpin (show (ns 17) < 6 by omega) (by decide)) dX5_test_56 (v_nw (fun h10 eh10 => ?_))
        have hm10 := hm8.putN (k := 18) rfl (g := (na 18)) (i := (ns 17)) (v := j2) (by omega) eh10
        refine v_aload_n C 0 rfl dX5_test_57 rfl ?_
        refine v_get (v := .ref (ad 19)) C F_X5_54 hm10.1 rfl dX5_test_58 ?_
        refine v_aload_n C 0 rfl dX5_test_61 rfl ?_
        refine v_get (v := .int (nI (ns 17))) C F_X5_177 hm10.1 rfl dX5_test_62 ?_
        refine v_iload_n C 2 rfl dX5_test_65 rfl ?_
        refine v_iast C (hm10.2.1 19 rfl) (vpin (show (ns 17) < 6 by omega) (by decide)) dX5_test_66 (v_nw (fun h11 eh11 => ?_))
        have hm11 := hm10.putN (k := 19) rfl (g := (na 19)) (i := (ns 17)) (v := j5) (by omega) eh11
        refine v_aload_n C 0 rfl dX5_test_67 rfl ?_
        refine v_dup C dX5_test_68 rfl ?_
        refine v_get (v := .int (nI (ns 17))) C F_X5_177 hm11.1 rfl dX5_test_69 ?_
        refine v_iconst (v := 1) C dX5_test_72 (by decide) ?_
        refine v_iadd C dX5_test_73 (v_eqi (nI_adk (ns 17) 1 (by decide)) ?_)
        refine v_put C (mC ad (upN (upN ns 0 0) 17 ((ns 17) + 1))) P_X5_177 hm11.1 rfl rfl rfl (Nat.le_of_ble_eq_true rfl) dX5_test_74 (v_nw (fun h13 eh13 => ?_))
        have hm13 := hm11.putS 17 ((ns 17) + 1) rfl eh13
        refine v_aload_n C 0 rfl dX5_test_77 rfl ?_
        refine v_get (v := .int (nI ((ns 17) + 1))) C F_X5_177 hm13.1 rfl dX5_test_78 ?_
        refine v_iconst (v := 1) C dX5_test_81 (by decide) ?_
        refine v_isub C dX5_test_82 (v_eqi (y := (nI (ns 17))) (nI_p1m1 (ns 17)) ?_)
        have ek : (kTest s (nI j2) (nI j5)) = 0 := by simp [kTest, inN, wth, c1, c4, c7, e7, e17]
        exact v_iret C hQ hr rfl (Nat.le_of_ble_eq_true rfl) (Nat.le_of_ble_eq_true rfl) dX5_test_83 (Or.inl ⟨ek, ⟨_, _, _, _, hm13, (by unfold nTest; rw [eCa, eCb]; exact hs.test rfl rfl rfl rfl), rfl⟩, (congrArg nI e17).symm⟩)
      · have c7 := (nk_ne_f (a := (ns 17)) 6 (by decide) (by omega) (by decide)).mp c7
        refine v_iconst (v := 2) C dX5_test_30 (by decide) ?_
        refine v_goto (tgt := 35) C dX5_test_31 (by decide) ?_
        refine v_put C (mC ad (upN ns 0 2)) P_X5_85 hm.1 rfl rfl rfl (Nat.le_of_ble_eq_true rfl) dX5_test_35 (v_nw (fun h15 eh15 => ?_))
        have hm15 := hm.putS 0 2 rfl eh15
        refine v_aload_n C 0 rfl dX5_test_38 rfl ?_
        refine v_get (v := .int (nI 2)) C F_X5_85 hm15.1 rfl dX5_test_39 ?_
        refine v_if_le (tgt := 47) C dX5_test_42 (by decide) (fun c16 => absurd c16 (by decide)) (fun c16 => ?_)
        refine v_iconst (v := 0) C dX5_test_45 (by decide) ?_
        have ek : (kTest s (nI j2) (nI j5)) = 2 := by simp [kTest, inN, wth, c1, c4, c7, e7, e17]
        exact v_iret C hQ hr rfl (Nat.le_of_ble_eq_true rfl) (Nat.le_of_ble_eq_true rfl) dX5_test_46 (Or.inr ⟨(by rw [ek]; decide), (by rw [ek]; exact ⟨_, _, _, _, hm15, hs.thr _, rfl⟩)⟩)
    · rw [zb_f c4] at e4; subst e4
      refine v_if_ne (tgt := 21) C dX5_test_14 (by decide) (fun c17 => absurd c17 (by decide)) (fun c17 => ?_)
      refine v_iconst (v := 1) C dX5_test_17 (by decide) ?_
      refine v_goto (tgt := 35) C dX5_test_18 (by decide) ?_
      refine v_put C (mC ad (upN ns 0 1)) P_X5_85 hm.1 rfl rfl rfl (Nat.le_of_ble_eq_true rfl) dX5_test_35 (v_nw (fun h18 eh18 => ?_))
      have hm18 := hm.putS 0 1 rfl eh18
      refine v_aload_n C 0 rfl dX5_test_38 rfl ?_
      refine v_get (v := .int (nI 1)) C F_X5_85 hm18.1 rfl dX5_test_39 ?_
      refine v_if_le (tgt := 47) C dX5_test_42 (by decide) (fun c19 => absurd c19 (by decide)) (fun c19 => ?_)
      refine v_iconst (v := 0) C dX5_test_45 (by decide) ?_
      have ek : (kTest s (nI j2) b) = 1 := by simp [kTest, inN, wth, c1, c4, e7, e17]
      exact v_iret C hQ hr rfl (Nat.le_of_ble_eq_true rfl) (Nat.le_of_ble_eq_true rfl) dX5_test_46 (Or.inr ⟨(by rw [ek]; decide), (by rw [ek]; exact ⟨_, _, _, _, hm18, hs.thr _, rfl⟩)⟩)
  · rw [zb_f c1] at e1; subst e1
    refine v_if_eq (tgt := 17) C dX5_test_6 (by decide) (fun c20 => ?_) (fun c20 => absurd c20 (by decide))
    refine v_iconst (v := 1) C dX5_test_17 (by decide) ?_
    refine v_goto (tgt := 35) C dX5_test_18 (by decide) ?_
    refine v_put C (mC ad (upN ns 0 1)) P_X5_85 hm.1 rfl rfl rfl (Nat.le_of_ble_eq_true rfl) dX5_test_35 (v_nw (fun h21 eh21 => ?_))
    have hm21 := hm.putS 0 1 rfl eh21
    refine v_aload_n C 0 rfl dX5_test_38 rfl ?_
    refine v_get (v := .int (nI 1)) C F_X5_85 hm21.1 rfl dX5_test_39 ?_
    refine v_if_le (tgt := 47) C dX5_test_42 (by decide) (fun c22 => absurd c22 (by decide)) (fun c22 => ?_)
    refine v_iconst (v := 0) C dX5_test_45 (by decide) ?_
    have ek : (kTest s a b) = 1 := by simp [kTest, inN, wth, c1, e7, e17]
    exact v_iret C hQ hr rfl (Nat.le_of_ble_eq_true rfl) (Nat.le_of_ble_eq_true rfl) dX5_test_46 (Or.inr ⟨(by rw [ek]; decide), (by rw [ek]; exact ⟨_, _, _, _, hm21, hs.thr _, rfl⟩)⟩)
set_option maxHeartbeats 4000000 in
set_option maxRecDepth 100000 in
theorem c_X5_wake (l : Launch) (hl : l.stackTraces = false) (G : zG) (m : Nat) (ad : Nat → Nat) (ns : Nat → Nat) (na : Nat → Nat → Nat) (ia : Nat → Nat → Int32) (la : Nat → Nat → Int64) (h0 : zH) (s : ZS) (r a v : Int32) (h : zH) (hm : MR G h0 h m ad ns na ia la) (hs : MS s ns na ia la) (hw : WFs s)  : zMet eI l yX5_wake cX5_wake 6 (some .int) 14 0 0 G [.ref m, .int r, .int a, .int v] h (fun res h2 => ((kWake s r a v) = 0 ∧ MO G h0 h2 m ad (nWake s r a v) 0 ∧ res = rW s (cl r)) ∨ ((kWake s r a v) ≠ 0 ∧ MO G h0 h2 m ad s (kWake s r a v))) := by
  refine con_of hl RX5 rfl (by decide +kernel) [(0, .ref m), (1, .int r), (2, .int a), (3, .int v)] rfl (Nat.le_of_ble_eq_true rfl) ?_
  intro zp ze zs zm zargs zbelow zmeth zc C hr hin Q hQ
  have e2 : (oS s).length = ns 2 := hs.2.1.1.symm
  have e7 : oN s = ns 7 := hs.2.2.1.1.symm
  have e17 : rN s = ns 17 := hs.2.2.2.1.1.symm
  have e25 : bN s = ns 25 := hs.2.2.2.2.1.symm
  have hw2 : ns 2 ≤ 8 := by rw [← e2]; exact hw.1
  have hw7 : ns 7 ≤ 10 := by rw [← e7]; exact hw.2.2.1.1
  have hw17 : ns 17 ≤ 6 := by rw [← e17]; exact hw.2.2.2.2.1.1
  have hw25 : ns 25 ≤ 6 := by rw [← e25]; exact hw.2.2.2.2.2.1
  refine v_aload_n C 0 rfl dX5_wake_0 rfl ?_
  refine v_iload_n C 1 rfl dX5_wake_1 rfl ?_
  refine v_callV (rest := []) C (c_X5_isTest l hl G m ad ns na ia la h0 r h hm (by omega)) K_X5_180 hm.1 rfl rfl (Nat.le_of_ble_eq_true rfl) ⟨Nat.le_of_ble_eq_true rfl, Nat.le_of_ble_eq_true rfl⟩ ⟨Nat.le_of_ble_eq_true rfl, Nat.le_of_ble_eq_true rfl⟩ dX5_wake_2 (fun i1 h1 q1 => ?_)
  obtain ⟨e1, rfl⟩ := q1
  by_cases c1 : inN r (ns 17)
  · rw [zb_t c1] at e1; subst e1
    obtain ⟨j2, hj2, en2⟩ := inN.nat c1 (by omega)
    subst en2
    have eCr : cl (nI j2) = j2 := cl_nI (by omega)
    refine v_if_eq (tgt := 24) C dX5_wake_5 (by decide) (fun c3 => absurd c3 (by decide)) (fun c3 => ?_)
    refine v_iload_n C 2 rfl dX5_wake_8 rfl ?_
    refine v_iconst (v := (-1)) C dX5_wake_9 (by decide) ?_
    refine v_icmp_eq (tgt := 20) C dX5_wake_10 (by decide) (fun c4 => ?_) (fun c4 => ?_)
    · refine v_iconst (v := 1) C dX5_wake_20 (by decide) ?_
      refine v_goto (tgt := 25) C dX5_wake_21 (by decide) ?_
      refine v_istore C [(4, .int 1), (0, .ref m), (1, .int (nI j2)), (2, .int a), (3, .int v)] rfl (by decide) dX5_wake_25 ?_
      refine v_aload_n C 1 rfl dX5_wake_27 rfl ?_
      refine v_iload C 0 rfl dX5_wake_28 ?_
      refine v_if_ne (tgt := 37) C dX5_wake_30 (by decide) (fun c5 => ?_) (fun c5 => absurd c5 (by decide))
      refine v_iload_n C 4 rfl dX5_wake_37 rfl ?_
      refine v_ldc C KO_X5_103 dX5_wake_38 ?_
      refine v_ldc C KO_X5_104 dX5_wake_40 ?_
      refine v_callS (rest := [.ref m]) C (c_X5_isIn l hl G  v (-1000000) 1000000 h ) S_X5_89 rfl rfl (Nat.le_of_ble_eq_true rfl) ⟨Nat.le_of_ble_eq_true rfl, Nat.le_of_ble_eq_true rfl⟩ ⟨Nat.le_of_ble_eq_true rfl, Nat.le_of_ble_eq_true rfl⟩ dX5_wake_42 (fun i6 h6 q6 => ?_)
      obtain ⟨e6, rfl⟩ := q6
      by_cases c6 : wth v (-1000000) 1000000
      · rw [zb_t c6] at e6; subst e6
        refine v_if_eq (tgt := 52) C dX5_wake_45 (by decide) (fun c7 => absurd c7 (by decide)) (fun c7 => ?_)
        refine v_iconst (v := 0) C dX5_wake_48 (by decide) ?_
        refine v_goto (tgt := 53) C dX5_wake_49 (by decide) ?_
        refine v_put C (mC ad (upN ns 0 0)) P_X5_85 hm.1 rfl rfl rfl (Nat.le_of_ble_eq_true rfl) dX5_wake_53 (v_nw (fun h8 eh8 => ?_))
        have hm8 := hm.putS 0 0 rfl eh8
        refine v_aload_n C 1 rfl dX5_wake_56 rfl ?_
        refine v_get (v := .int (nI 0)) C F_X5_85 hm8.1 rfl dX5_wake_57 ?_
        refine v_if_le (tgt := 65) C dX5_wake_60 (by decide) (fun c9 => ?_) (fun c9 => absurd c9 (by decide))
        refine v_aload_n C 1 rfl dX5_wake_65 rfl ?_
        refine v_get (v := .ref (ad 21)) C F_X5_60 hm8.1 rfl dX5_wake_66 ?_
        refine v_iload_n C 2 rfl dX5_wake_69 rfl ?_
        refine v_iald C (hm8.2.2.1 21 rfl) (vpin (show j2 < 6 by omega) (by decide)) dX5_wake_70 (v_eqi (y := (ia 21) j2) (congrArg (ia 21) (nI_clamp (show j2 < 2 ^ 31 by omega))) ?_)
        refine v_istore C [(5, .int ((ia 21) j2)), (4, .int 1), (0, .ref m), (1, .int (nI j2)), (2, .int a), (3, .int v)] rfl (by decide) dX5_wake_71 ?_
        refine v_aload_n C 2 rfl dX5_wake_73 rfl ?_
        refine v_get (v := .ref (ad 21)) C F_X5_60 hm8.1 rfl dX5_wake_74 ?_
        refine v_iload_n C 3 rfl dX5_wake_77 rfl ?_
        refine v_iload_n C 4 rfl dX5_wake_78 rfl ?_
        refine v_iast C (hm8.2.2.1 21 rfl) (vpin (show j2 < 6 by omega) (by decide)) dX5_wake_79 (v_nw (fun h10 eh10 => ?_))
        have hm10 := hm8.putI2 (k := 21) rfl (g := (ia 21)) (i := j2) (v := a) (by omega) eh10
        refine v_aload_n C 2 rfl dX5_wake_80 rfl ?_
        refine v_get (v := .ref (ad 22)) C F_X5_63 hm10.1 rfl dX5_wake_81 ?_
        refine v_iload_n C 3 rfl dX5_wake_84 rfl ?_
        refine v_iload_n C 5 rfl dX5_wake_85 rfl ?_
        refine v_iast C (hm10.2.2.1 22 rfl) (vpin (show j2 < 6 by omega) (by decide)) dX5_wake_86 (v_nw (fun h11 eh11 => ?_))
        have hm11 := hm10.putI2 (k := 22) rfl (g := (ia 22)) (i := j2) (v := v) (by omega) eh11
        refine v_iload C 0 rfl dX5_wake_87 ?_
        have ek : (kWake s (nI j2) a v) = 0 := by simp [kWake, inN, wth, c1, c4, c6, e17]
        exact v_iret C hQ hr rfl (Nat.le_of_ble_eq_true rfl) (Nat.le_of_ble_eq_true rfl) dX5_wake_89 (Or.inl ⟨ek, ⟨_, _, _, _, hm11, (by unfold nWake; rw [eCr]; exact hs.wake rfl rfl rfl rfl), rfl⟩, (by rw [eCr]; exact (hs.2.2.2.1.2 j2 (by omega)).2.2.1)⟩)
      · rw [zb_f c6] at e6; subst e6
        refine v_if_eq (tgt := 52) C dX5_wake_45 (by decide) (fun c12 => ?_) (fun c12 => absurd c12 (by decide))
        refine v_iconst (v := 2) C dX5_wake_52 (by decide) ?_
        refine v_put C (mC ad (upN ns 0 2)) P_X5_85 hm.1 rfl rfl rfl (Nat.le_of_ble_eq_true rfl) dX5_wake_53 (v_nw (fun h13 eh13 => ?_))
        have hm13 := hm.putS 0 2 rfl eh13
        refine v_aload_n C 1 rfl dX5_wake_56 rfl ?_
        refine v_get (v := .int (nI 2)) C F_X5_85 hm13.1 rfl dX5_wake_57 ?_
        refine v_if_le (tgt := 65) C dX5_wake_60 (by decide) (fun c14 => absurd c14 (by decide)) (fun c14 => ?_)
        refine v_iconst (v := 0) C dX5_wake_63 (by decide) ?_
        have ek : (kWake s (nI j2) a v) = 2 := by simp [kWake, inN, wth, c1, c4, c6, e17]
        exact v_iret C hQ hr rfl (Nat.le_of_ble_eq_true rfl) (Nat.le_of_ble_eq_true rfl) dX5_wake_64 (Or.inr ⟨(by rw [ek]; decide), (by rw [ek]; exact ⟨_, _, _, _, hm13, hs.thr _, rfl⟩)⟩)
    · refine v_iload_n C 2 rfl dX5_wake_13 rfl ?_
      refine v_callS (rest := []) C (c_X5_isAccount l hl G  a h ) S_X5_96 rfl rfl (Nat.le_of_ble_eq_true rfl) ⟨Nat.le_of_ble_eq_true rfl, Nat.le_of_ble_eq_true rfl⟩ ⟨Nat.le_of_ble_eq_true rfl, Nat.le_of_ble_eq_true rfl⟩ dX5_wake_14 (fun i15 h15 q15 => ?_)
      obtain ⟨e15, rfl⟩ := q15
      by_cases c15 : inN a 6
      · rw [zb_t c15] at e15; subst e15
        refine v_if_eq (tgt := 24) C dX5_wake_17 (by decide) (fun c16 => absurd c16 (by decide)) (fun c16 => ?_)
        refine v_iconst (v := 1) C dX5_wake_20 (by decide) ?_
        refine v_goto (tgt := 25) C dX5_wake_21 (by decide) ?_
        refine v_istore C [(4, .int 1), (0, .ref m), (1, .int (nI j2)), (2, .int a), (3, .int v)] rfl (by decide) dX5_wake_25 ?_
        refine v_aload_n C 1 rfl dX5_wake_27 rfl ?_
        refine v_iload C 0 rfl dX5_wake_28 ?_
        refine v_if_ne (tgt := 37) C dX5_wake_30 (by decide) (fun c17 => ?_) (fun c17 => absurd c17 (by decide))
        refine v_iload_n C 4 rfl dX5_wake_37 rfl ?_
        refine v_ldc C KO_X5_103 dX5_wake_38 ?_
        refine v_ldc C KO_X5_104 dX5_wake_40 ?_
        refine v_callS (rest := [.ref m]) C (c_X5_isIn l hl G  v (-1000000) 1000000 h ) S_X5_89 rfl rfl (Nat.le_of_ble_eq_true rfl) ⟨Nat.le_of_ble_eq_true rfl, Nat.le_of_ble_eq_true rfl⟩ ⟨Nat.le_of_ble_eq_true rfl, Nat.le_of_ble_eq_true rfl⟩ dX5_wake_42 (fun i18 h18 q18 => ?_)
        obtain ⟨e18, rfl⟩ := q18
        by_cases c18 : wth v (-1000000) 1000000
        · rw [zb_t c18] at e18; subst e18
          refine v_if_eq (tgt := 52) C dX5_wake_45 (by decide) (fun c19 => absurd c19 (by decide)) (fun c19 => ?_)
          refine v_iconst (v := 0) C dX5_wake_48 (by decide) ?_
          refine v_goto (tgt := 53) C dX5_wake_49 (by decide) ?_
          refine v_put C (mC ad (upN ns 0 0)) P_X5_85 hm.1 rfl rfl rfl (Nat.le_of_ble_eq_true rfl) dX5_wake_53 (v_nw (fun h20 eh20 => ?_))
          have hm20 := hm.putS 0 0 rfl eh20
          refine v_aload_n C 1 rfl dX5_wake_56 rfl ?_
          refine v_get (v := .int (nI 0)) C F_X5_85 hm20.1 rfl dX5_wake_57 ?_
          refine v_if_le (tgt := 65) C dX5_wake_60 (by decide) (fun c21 => ?_) (fun c21 => absurd c21 (by decide))
          refine v_aload_n C 1 rfl dX5_wake_65 rfl ?_
          refine v_get (v := .ref (ad 21)) C F_X5_60 hm20.1 rfl dX5_wake_66 ?_
          refine v_iload_n C 2 rfl dX5_wake_69 rfl ?_
          refine v_iald C (hm20.2.2.1 21 rfl) (vpin (show j2 < 6 by omega) (by decide)) dX5_wake_70 (v_eqi (y := (ia 21) j2) (congrArg (ia 21) (nI_clamp (show j2 < 2 ^ 31 by omega))) ?_)
          refine v_istore C [(5, .int ((ia 21) j2)), (4, .int 1), (0, .ref m), (1, .int (nI j2)), (2, .int a), (3, .int v)] rfl (by decide) dX5_wake_71 ?_
          refine v_aload_n C 2 rfl dX5_wake_73 rfl ?_
          refine v_get (v := .ref (ad 21)) C F_X5_60 hm20.1 rfl dX5_wake_74 ?_
          refine v_iload_n C 3 rfl dX5_wake_77 rfl ?_
          refine v_iload_n C 4 rfl dX5_wake_78 rfl ?_
          refine v_iast C (hm20.2.2.1 21 rfl) (vpin (show j2 < 6 by omega) (by decide)) dX5_wake_79 (v_nw (fun h22 eh22 => ?_))
          have hm22 := hm20.putI2 (k := 21) rfl (g := (ia 21)) (i := j2) (v := a) (by omega) eh22
          refine v_aload_n C 2 rfl dX5_wake_80 rfl ?_
          refine v_get (v := .ref (ad 22)) C F_X5_63 hm22.1 rfl dX5_wake_81 ?_
          refine v_iload_n C 3 rfl dX5_wake_84 rfl ?_
          refine v_iload_n C 5 rfl dX5_wake_85 rfl ?_
          refine v_iast C (hm22.2.2.1 22 rfl) (vpin (show j2 < 6 by omega) (by decide)) dX5_wake_86 (v_nw (fun h23 eh23 => ?_))
          have hm23 := hm22.putI2 (k := 22) rfl (g := (ia 22)) (i := j2) (v := v) (by omega) eh23
          refine v_iload C 0 rfl dX5_wake_87 ?_
          have ek : (kWake s (nI j2) a v) = 0 := by simp [kWake, inN, wth, c1, c4, c15, c18, e17]
          exact v_iret C hQ hr rfl (Nat.le_of_ble_eq_true rfl) (Nat.le_of_ble_eq_true rfl) dX5_wake_89 (Or.inl ⟨ek, ⟨_, _, _, _, hm23, (by unfold nWake; rw [eCr]; exact hs.wake rfl rfl rfl rfl), rfl⟩, (by rw [eCr]; exact (hs.2.2.2.1.2 j2 (by omega)).2.2.1)⟩)
        · rw [zb_f c18] at e18; subst e18
          refine v_if_eq (tgt := 52) C dX5_wake_45 (by decide) (fun c24 => ?_) (fun c24 => absurd c24 (by decide))
          refine v_iconst (v := 2) C dX5_wake_52 (by decide) ?_
          refine v_put C (mC ad (upN ns 0 2)) P_X5_85 hm.1 rfl rfl rfl (Nat.le_of_ble_eq_true rfl) dX5_wake_53 (v_nw (fun h25 eh25 => ?_))
          have hm25 := hm.putS 0 2 rfl eh25
          refine v_aload_n C 1 rfl dX5_wake_56 rfl ?_
          refine v_get (v := .int (nI 2)) C F_X5_85 hm25.1 rfl dX5_wake_57 ?_
          refine v_if_le (tgt := 65) C dX5_wake_60 (by decide) (fun c26 => absurd c26 (by decide)) (fun c26 => ?_)
          refine v_iconst (v := 0) C dX5_wake_63 (by decide) ?_
          have ek : (kWake s (nI j2) a v) = 2 := by simp [kWake, inN, wth, c1, c4, c15, c18, e17]
          exact v_iret C hQ hr rfl (Nat.le_of_ble_eq_true rfl) (Nat.le_of_ble_eq_true rfl) dX5_wake_64 (Or.inr ⟨(by rw [ek]; decide), (by rw [ek]; exact ⟨_, _, _, _, hm25, hs.thr _, rfl⟩)⟩)
      · rw [zb_f c15] at e15; subst e15
        refine v_if_eq (tgt := 24) C dX5_wake_17 (by decide) (fun c27 => ?_) (fun c27 => absurd c27 (by decide))
        refine v_iconst (v := 0) C dX5_wake_24 (by decide) ?_
        refine v_istore C [(4, .int 0), (0, .ref m), (1, .int (nI j2)), (2, .int a), (3, .int v)] rfl (by decide) dX5_wake_25 ?_
        refine v_aload_n C 1 rfl dX5_wake_27 rfl ?_
        refine v_iload C 0 rfl dX5_wake_28 ?_
        refine v_if_ne (tgt := 37) C dX5_wake_30 (by decide) (fun c28 => absurd c28 (by decide)) (fun c28 => ?_)
        refine v_iconst (v := 1) C dX5_wake_33 (by decide) ?_
        refine v_goto (tgt := 53) C dX5_wake_34 (by decide) ?_
        refine v_put C (mC ad (upN ns 0 1)) P_X5_85 hm.1 rfl rfl rfl (Nat.le_of_ble_eq_true rfl) dX5_wake_53 (v_nw (fun h29 eh29 => ?_))
        have hm29 := hm.putS 0 1 rfl eh29
        refine v_aload_n C 1 rfl dX5_wake_56 rfl ?_
        refine v_get (v := .int (nI 1)) C F_X5_85 hm29.1 rfl dX5_wake_57 ?_
        refine v_if_le (tgt := 65) C dX5_wake_60 (by decide) (fun c30 => absurd c30 (by decide)) (fun c30 => ?_)
        refine v_iconst (v := 0) C dX5_wake_63 (by decide) ?_
        have ek : (kWake s (nI j2) a v) = 1 := by simp [kWake, inN, wth, c1, c4, c15, e17]
        exact v_iret C hQ hr rfl (Nat.le_of_ble_eq_true rfl) (Nat.le_of_ble_eq_true rfl) dX5_wake_64 (Or.inr ⟨(by rw [ek]; decide), (by rw [ek]; exact ⟨_, _, _, _, hm29, hs.thr _, rfl⟩)⟩)
  · rw [zb_f c1] at e1; subst e1
    refine v_if_eq (tgt := 24) C dX5_wake_5 (by decide) (fun c31 => ?_) (fun c31 => absurd c31 (by decide))
    refine v_iconst (v := 0) C dX5_wake_24 (by decide) ?_
    refine v_istore C [(4, .int 0), (0, .ref m), (1, .int r), (2, .int a), (3, .int v)] rfl (by decide) dX5_wake_25 ?_
    refine v_aload_n C 1 rfl dX5_wake_27 rfl ?_
    refine v_iload C 0 rfl dX5_wake_28 ?_
    refine v_if_ne (tgt := 37) C dX5_wake_30 (by decide) (fun c32 => absurd c32 (by decide)) (fun c32 => ?_)
    refine v_iconst (v := 1) C dX5_wake_33 (by decide) ?_
    refine v_goto (tgt := 53) C dX5_wake_34 (by decide) ?_
    refine v_put C (mC ad (upN ns 0 1)) P_X5_85 hm.1 rfl rfl rfl (Nat.le_of_ble_eq_true rfl) dX5_wake_53 (v_nw (fun h33 eh33 => ?_))
    have hm33 := hm.putS 0 1 rfl eh33
    refine v_aload_n C 1 rfl dX5_wake_56 rfl ?_
    refine v_get (v := .int (nI 1)) C F_X5_85 hm33.1 rfl dX5_wake_57 ?_
    refine v_if_le (tgt := 65) C dX5_wake_60 (by decide) (fun c34 => absurd c34 (by decide)) (fun c34 => ?_)
    refine v_iconst (v := 0) C dX5_wake_63 (by decide) ?_
    have ek : (kWake s r a v) = 1 := by simp [kWake, inN, wth, c1, e17]
    exact v_iret C hQ hr rfl (Nat.le_of_ble_eq_true rfl) (Nat.le_of_ble_eq_true rfl) dX5_wake_64 (Or.inr ⟨(by rw [ek]; decide), (by rw [ek]; exact ⟨_, _, _, _, hm33, hs.thr _, rfl⟩)⟩)
set_option maxHeartbeats 4000000 in
set_option maxRecDepth 100000 in
theorem c_X5_waive (l : Launch) (hl : l.stackTraces = false) (G : zG) (m : Nat) (ad : Nat → Nat) (ns : Nat → Nat) (na : Nat → Nat → Nat) (ia : Nat → Nat → Int32) (la : Nat → Nat → Int64) (h0 : zH) (s : ZS) (r q : Int32) (h : zH) (hm : MR G h0 h m ad ns na ia la) (hs : MS s ns na ia la) (hw : WFs s)  : zMet eI l yX5_waive cX5_waive 3 (some .boolean) 14 0 0 G [.ref m, .int r, .int q] h (fun res h2 => ((kIsRQ s r q) = 0 ∧ MO G h0 h2 m ad (nWaive s r q) 0 ∧ res = b01 (!(rV s (cl r) (cl q)))) ∨ ((kIsRQ s r q) ≠ 0 ∧ MO G h0 h2 m ad s (kIsRQ s r q))) := by
  refine con_of hl RX5 rfl (by decide +kernel) [(0, .ref m), (1, .int r), (2, .int q)] rfl (Nat.le_of_ble_eq_true rfl) ?_
  intro zp ze zs zm zargs zbelow zmeth zc C hr hin Q hQ
  have e2 : (oS s).length = ns 2 := hs.2.1.1.symm
  have e7 : oN s = ns 7 := hs.2.2.1.1.symm
  have e17 : rN s = ns 17 := hs.2.2.2.1.1.symm
  have e25 : bN s = ns 25 := hs.2.2.2.2.1.symm
  have hw2 : ns 2 ≤ 8 := by rw [← e2]; exact hw.1
  have hw7 : ns 7 ≤ 10 := by rw [← e7]; exact hw.2.2.1.1
  have hw17 : ns 17 ≤ 6 := by rw [← e17]; exact hw.2.2.2.2.1.1
  have hw25 : ns 25 ≤ 6 := by rw [← e25]; exact hw.2.2.2.2.2.1
  refine v_aload_n C 0 rfl dX5_waive_0 rfl ?_
  refine v_aload_n C 0 rfl dX5_waive_1 rfl ?_
  refine v_iload_n C 1 rfl dX5_waive_2 rfl ?_
  refine v_callV (rest := [.ref m]) C (c_X5_isTest l hl G m ad ns na ia la h0 r h hm (by omega)) K_X5_180 hm.1 rfl rfl (Nat.le_of_ble_eq_true rfl) ⟨Nat.le_of_ble_eq_true rfl, Nat.le_of_ble_eq_true rfl⟩ ⟨Nat.le_of_ble_eq_true rfl, Nat.le_of_ble_eq_true rfl⟩ dX5_waive_3 (fun i1 h1 q1 => ?_)
  obtain ⟨e1, rfl⟩ := q1
  by_cases c1 : inN r (ns 17)
  · rw [zb_t c1] at e1; subst e1
    obtain ⟨j2, hj2, en2⟩ := inN.nat c1 (by omega)
    subst en2
    have eCr : cl (nI j2) = j2 := cl_nI (by omega)
    refine v_if_eq (tgt := 20) C dX5_waive_6 (by decide) (fun c3 => absurd c3 (by decide)) (fun c3 => ?_)
    refine v_iload_n C 2 rfl dX5_waive_9 rfl ?_
    refine v_callS (rest := [.ref m]) C (c_X5_isQuarter l hl G  q h ) S_X5_100 rfl rfl (Nat.le_of_ble_eq_true rfl) ⟨Nat.le_of_ble_eq_true rfl, Nat.le_of_ble_eq_true rfl⟩ ⟨Nat.le_of_ble_eq_true rfl, Nat.le_of_ble_eq_true rfl⟩ dX5_waive_10 (fun i4 h4 q4 => ?_)
    obtain ⟨e4, rfl⟩ := q4
    by_cases c4 : inN q 20
    · rw [zb_t c4] at e4; subst e4
      obtain ⟨j5, hj5, en5⟩ := inN.nat c4 (by omega)
      subst en5
      have eCq : cl (nI j5) = j5 := cl_nI (by omega)
      have hV := ((hs.2.2.2.1.2 j2 (by omega)).2.2.2.2 j5 (by omega)).2.2
      refine v_if_eq (tgt := 20) C dX5_waive_13 (by decide) (fun c6 => absurd c6 (by decide)) (fun c6 => ?_)
      refine v_iconst (v := 0) C dX5_waive_16 (by decide) ?_
      refine v_goto (tgt := 21) C dX5_waive_17 (by decide) ?_
      refine v_put C (mC ad (upN ns 0 0)) P_X5_85 hm.1 rfl rfl rfl (Nat.le_of_ble_eq_true rfl) dX5_waive_21 (v_nw (fun h7 eh7 => ?_))
      have hm7 := hm.putS 0 0 rfl eh7
      refine v_aload_n C 0 rfl dX5_waive_24 rfl ?_
      refine v_get (v := .int (nI 0)) C F_X5_85 hm7.1 rfl dX5_waive_25 ?_
      refine v_if_le (tgt := 33) C dX5_waive_28 (by decide) (fun c8 => ?_) (fun c8 => absurd c8 (by decide))
      refine v_aload_n C 0 rfl dX5_waive_33 rfl ?_
      refine v_get (v := .ref (ad 24)) C F_X5_69 hm7.1 rfl dX5_waive_34 ?_
      refine v_bipush (v := 20) C dX5_waive_37 (by decide) ?_
      refine v_iload_n C 1 rfl dX5_waive_39 rfl ?_
      refine v_imul C dX5_waive_40 (v_eqi (nI_kml j2 20 (by decide)) ?_)
      refine v_iload_n C 2 rfl dX5_waive_41 rfl ?_
      refine v_iadd C dX5_waive_42 (v_eqi (nI_add (20 * j2) j5) ?_)
      refine v_aload_n C 0 rfl dX5_waive_43 rfl ?_
      refine v_get (v := .ref (ad 24)) C F_X5_69 hm7.1 rfl dX5_waive_44 ?_
      refine v_bipush (v := 20) C dX5_waive_47 (by decide) ?_
      refine v_iload_n C 1 rfl dX5_waive_49 rfl ?_
      refine v_imul C dX5_waive_50 (v_eqi (nI_kml j2 20 (by decide)) ?_)
      refine v_iload_n C 2 rfl dX5_waive_51 rfl ?_
      refine v_iadd C dX5_waive_52 (v_eqi (nI_add (20 * j2) j5) ?_)
      refine v_zald C (hm7.2.2.1 24 rfl) (vpin (show ((20 * j2) + j5) < 120 by omega) (by decide)) dX5_waive_53 (v_eqi (y := (ia 24) ((20 * j2) + j5)) (congrArg (ia 24) (nI_clamp (show ((20 * j2) + j5) < 2 ^ 31 by omega))) ?_)
      refine v_if_ne (tgt := 61) C dX5_waive_54 (by decide) (fun c13 => ?_) (fun c13 => ?_)
      · have hV2 : rV s j2 j5 = true := by
            cases hz : rV s j2 j5
            · exact absurd (hV.trans (by rw [show (oR s).2.2.2.2.2.2.2 j2 j5 = false from hz] <;> rfl)) c13
            · rfl
        refine v_iconst (v := 0) C dX5_waive_61 (by decide) ?_
        refine v_zast C (hm7.2.2.1 24 rfl) (vpin (show ((20 * j2) + j5) < 120 by omega) (by decide)) dX5_waive_62 (v_nw (fun h14 eh14 => ?_))
        rw [show vp_nar .boolean (0 : Int32) = 0 by decide] at eh14
        have hm14 := hm7.putI2 (k := 24) rfl (g := (ia 24)) (i := ((20 * j2) + j5)) (v := 0) (by omega) eh14
        refine v_aload_n C 0 rfl dX5_waive_63 rfl ?_
        refine v_get (v := .ref (ad 24)) C F_X5_69 hm14.1 rfl dX5_waive_64 ?_
        refine v_bipush (v := 20) C dX5_waive_67 (by decide) ?_
        refine v_iload_n C 1 rfl dX5_waive_69 rfl ?_
        refine v_imul C dX5_waive_70 (v_eqi (nI_kml j2 20 (by decide)) ?_)
        refine v_iload_n C 2 rfl dX5_waive_71 rfl ?_
        refine v_iadd C dX5_waive_72 (v_eqi (nI_add (20 * j2) j5) ?_)
        refine v_zald C (hm14.2.2.1 24 rfl) (vpin (show ((20 * j2) + j5) < 120 by omega) (by decide)) dX5_waive_73 (v_eqi (y := (up2 (ia 24) ((20 * j2) + j5) 0) ((20 * j2) + j5)) (congrArg (up2 (ia 24) ((20 * j2) + j5) 0) (nI_clamp (show ((20 * j2) + j5) < 2 ^ 31 by omega))) ?_)
        have ek : (kIsRQ s (nI j2) (nI j5)) = 0 := by simp [kIsRQ, inN, wth, c1, c4, c13, e17]
        exact v_iret C hQ hr (by first | rfl | (rw [up2_s]; rfl)) (Nat.le_of_ble_eq_true rfl) (Nat.le_of_ble_eq_true rfl) dX5_waive_74 (Or.inl ⟨ek, ⟨_, _, _, _, hm14, (by unfold nWaive; rw [eCr, eCq, hV2]; exact hs.waive (v := !true) (by omega) rfl rfl rfl rfl), rfl⟩, (by rw [eCr, eCq, hV2, up2_s]; rfl)⟩)
      · have hV2 : rV s j2 j5 = false := by
            cases hz : rV s j2 j5
            · rfl
            · exact absurd ((hV.trans (by rw [show (oR s).2.2.2.2.2.2.2 j2 j5 = true from hz] <;> rfl)).symm.trans c13) (by decide)
        refine v_iconst (v := 1) C dX5_waive_57 (by decide) ?_
        refine v_goto (tgt := 62) C dX5_waive_58 (by decide) ?_
        refine v_zast C (hm7.2.2.1 24 rfl) (vpin (show ((20 * j2) + j5) < 120 by omega) (by decide)) dX5_waive_62 (v_nw (fun h17 eh17 => ?_))
        rw [show vp_nar .boolean (1 : Int32) = 1 by decide] at eh17
        have hm17 := hm7.putI2 (k := 24) rfl (g := (ia 24)) (i := ((20 * j2) + j5)) (v := 1) (by omega) eh17
        refine v_aload_n C 0 rfl dX5_waive_63 rfl ?_
        refine v_get (v := .ref (ad 24)) C F_X5_69 hm17.1 rfl dX5_waive_64 ?_
        refine v_bipush (v := 20) C dX5_waive_67 (by decide) ?_
        refine v_iload_n C 1 rfl dX5_waive_69 rfl ?_
        refine v_imul C dX5_waive_70 (v_eqi (nI_kml j2 20 (by decide)) ?_)
        refine v_iload_n C 2 rfl dX5_waive_71 rfl ?_
        refine v_iadd C dX5_waive_72 (v_eqi (nI_add (20 * j2) j5) ?_)
        refine v_zald C (hm17.2.2.1 24 rfl) (vpin (show ((20 * j2) + j5) < 120 by omega) (by decide)) dX5_waive_73 (v_eqi (y := (up2 (ia 24) ((20 * j2) + j5) 1) ((20 * j2) + j5)) (congrArg (up2 (ia 24) ((20 * j2) + j5) 1) (nI_clamp (show ((20 * j2) + j5) < 2 ^ 31 by omega))) ?_)
        have ek : (kIsRQ s (nI j2) (nI j5)) = 0 := by simp [kIsRQ, inN, wth, c1, c4, c13, e17]
        exact v_iret C hQ hr (by first | rfl | (rw [up2_s]; rfl)) (Nat.le_of_ble_eq_true rfl) (Nat.le_of_ble_eq_true rfl) dX5_waive_74 (Or.inl ⟨ek, ⟨_, _, _, _, hm17, (by unfold nWaive; rw [eCr, eCq, hV2]; exact hs.waive (v := !false) (by omega) rfl rfl rfl rfl), rfl⟩, (by rw [eCr, eCq, hV2, up2_s]; rfl)⟩)
    · rw [zb_f c4] at e4; subst e4
      refine v_if_eq (tgt := 20) C dX5_waive_13 (by decide) (fun c20 => ?_) (fun c20 => absurd c20 (by decide))
      refine v_iconst (v := 1) C dX5_waive_20 (by decide) ?_
      refine v_put C (mC ad (upN ns 0 1)) P_X5_85 hm.1 rfl rfl rfl (Nat.le_of_ble_eq_true rfl) dX5_waive_21 (v_nw (fun h21 eh21 => ?_))
      have hm21 := hm.putS 0 1 rfl eh21
      refine v_aload_n C 0 rfl dX5_waive_24 rfl ?_
      refine v_get (v := .int (nI 1)) C F_X5_85 hm21.1 rfl dX5_waive_25 ?_
      refine v_if_le (tgt := 33) C dX5_waive_28 (by decide) (fun c22 => absurd c22 (by decide)) (fun c22 => ?_)
      refine v_iconst (v := 0) C dX5_waive_31 (by decide) ?_
      have ek : (kIsRQ s (nI j2) q) = 1 := by simp [kIsRQ, inN, wth, c1, c4, e17]
      exact v_iret C hQ hr (by first | rfl | (rw [up2_s]; rfl)) (Nat.le_of_ble_eq_true rfl) (Nat.le_of_ble_eq_true rfl) dX5_waive_32 (Or.inr ⟨(by rw [ek]; decide), (by rw [ek]; exact ⟨_, _, _, _, hm21, hs.thr _, rfl⟩)⟩)
  · rw [zb_f c1] at e1; subst e1
    refine v_if_eq (tgt := 20) C dX5_waive_6 (by decide) (fun c23 => ?_) (fun c23 => absurd c23 (by decide))
    refine v_iconst (v := 1) C dX5_waive_20 (by decide) ?_
    refine v_put C (mC ad (upN ns 0 1)) P_X5_85 hm.1 rfl rfl rfl (Nat.le_of_ble_eq_true rfl) dX5_waive_21 (v_nw (fun h24 eh24 => ?_))
    have hm24 := hm.putS 0 1 rfl eh24
    refine v_aload_n C 0 rfl dX5_waive_24 rfl ?_
    refine v_get (v := .int (nI 1)) C F_X5_85 hm24.1 rfl dX5_waive_25 ?_
    refine v_if_le (tgt := 33) C dX5_waive_28 (by decide) (fun c25 => absurd c25 (by decide)) (fun c25 => ?_)
    refine v_iconst (v := 0) C dX5_waive_31 (by decide) ?_
    have ek : (kIsRQ s r q) = 1 := by simp [kIsRQ, inN, wth, c1, e17]
    exact v_iret C hQ hr (by first | rfl | (rw [up2_s]; rfl)) (Nat.le_of_ble_eq_true rfl) (Nat.le_of_ble_eq_true rfl) dX5_waive_32 (Or.inr ⟨(by rw [ek]; decide), (by rw [ek]; exact ⟨_, _, _, _, hm24, hs.thr _, rfl⟩)⟩)
set_option maxHeartbeats 4000000 in
set_option maxRecDepth 100000 in
theorem c_X5_basket (l : Launch) (hl : l.stackTraces = false) (G : zG) (m : Nat) (ad : Nat → Nat) (ns : Nat → Nat) (na : Nat → Nat → Nat) (ia : Nat → Nat → Int32) (la : Nat → Nat → Int64) (h0 : zH) (s : ZS) (f t p : Int32) (h : zH) (hm : MR G h0 h m ad ns na ia la) (hs : MS s ns na ia la) (hw : WFs s)  : zMet eI l yX5_basket cX5_basket 5 (some .int) 14 0 0 G [.ref m, .int f, .int t, .int p] h (fun res h2 => ((kBasket s f t p) = 0 ∧ MO G h0 h2 m ad (nBasket s f t p) 0 ∧ res = nI (bN s)) ∨ ((kBasket s f t p) ≠ 0 ∧ MO G h0 h2 m ad s (kBasket s f t p))) := by
  refine con_of hl RX5 rfl (by decide +kernel) [(0, .ref m), (1, .int f), (2, .int t), (3, .int p)] rfl (Nat.le_of_ble_eq_true rfl) ?_
  intro zp ze zs zm zargs zbelow zmeth zc C hr hin Q hQ
  have e2 : (oS s).length = ns 2 := hs.2.1.1.symm
  have e7 : oN s = ns 7 := hs.2.2.1.1.symm
  have e17 : rN s = ns 17 := hs.2.2.2.1.1.symm
  have e25 : bN s = ns 25 := hs.2.2.2.2.1.symm
  have hw2 : ns 2 ≤ 8 := by rw [← e2]; exact hw.1
  have hw7 : ns 7 ≤ 10 := by rw [← e7]; exact hw.2.2.1.1
  have hw17 : ns 17 ≤ 6 := by rw [← e17]; exact hw.2.2.2.2.1.1
  have hw25 : ns 25 ≤ 6 := by rw [← e25]; exact hw.2.2.2.2.2.1
  refine v_iload_n C 1 rfl dX5_basket_0 rfl ?_
  refine v_iconst (v := 0) C dX5_basket_1 (by decide) ?_
  refine v_ldc C KO_X5_104 dX5_basket_2 ?_
  refine v_callS (rest := []) C (c_X5_isIn l hl G  f 0 1000000 h ) S_X5_89 rfl rfl (Nat.le_of_ble_eq_true rfl) ⟨Nat.le_of_ble_eq_true rfl, Nat.le_of_ble_eq_true rfl⟩ ⟨Nat.le_of_ble_eq_true rfl, Nat.le_of_ble_eq_true rfl⟩ dX5_basket_4 (fun i1 h1 q1 => ?_)
  obtain ⟨e1, rfl⟩ := q1
  by_cases c1 : wth f 0 1000000
  · rw [zb_t c1] at e1; subst e1
    refine v_if_eq (tgt := 24) C dX5_basket_7 (by decide) (fun c2 => absurd c2 (by decide)) (fun c2 => ?_)
    refine v_iload_n C 3 rfl dX5_basket_10 rfl ?_
    refine v_iconst (v := 0) C dX5_basket_11 (by decide) ?_
    refine v_bipush (v := 100) C dX5_basket_12 (by decide) ?_
    refine v_callS (rest := []) C (c_X5_isIn l hl G  p 0 100 h ) S_X5_89 rfl rfl (Nat.le_of_ble_eq_true rfl) ⟨Nat.le_of_ble_eq_true rfl, Nat.le_of_ble_eq_true rfl⟩ ⟨Nat.le_of_ble_eq_true rfl, Nat.le_of_ble_eq_true rfl⟩ dX5_basket_14 (fun i3 h3 q3 => ?_)
    obtain ⟨e3, rfl⟩ := q3
    by_cases c3 : wth p 0 100
    · rw [zb_t c3] at e3; subst e3
      refine v_if_eq (tgt := 24) C dX5_basket_17 (by decide) (fun c4 => absurd c4 (by decide)) (fun c4 => ?_)
      refine v_iconst (v := 1) C dX5_basket_20 (by decide) ?_
      refine v_goto (tgt := 25) C dX5_basket_21 (by decide) ?_
      refine v_istore C [(4, .int 1), (0, .ref m), (1, .int f), (2, .int t), (3, .int p)] rfl (by decide) dX5_basket_25 ?_
      refine v_aload_n C 1 rfl dX5_basket_27 rfl ?_
      refine v_iload C 0 rfl dX5_basket_28 ?_
      refine v_if_ne (tgt := 37) C dX5_basket_30 (by decide) (fun c5 => ?_) (fun c5 => absurd c5 (by decide))
      refine v_aload_n C 1 rfl dX5_basket_37 rfl ?_
      refine v_iload_n C 3 rfl dX5_basket_38 rfl ?_
      refine v_callV (rest := [.ref m]) C (c_X5_isTerm l hl G m ad ns na ia la h0 t h hm (by omega)) K_X5_116 hm.1 rfl rfl (Nat.le_of_ble_eq_true rfl) ⟨Nat.le_of_ble_eq_true rfl, Nat.le_of_ble_eq_true rfl⟩ ⟨Nat.le_of_ble_eq_true rfl, Nat.le_of_ble_eq_true rfl⟩ dX5_basket_39 (fun i6 h6 q6 => ?_)
      obtain ⟨e6, rfl⟩ := q6
      by_cases c6 : inN t (ns 7)
      · rw [zb_t c6] at e6; subst e6
        obtain ⟨j7, hj7, en7⟩ := inN.nat c6 (by omega)
        subst en7
        have eCt : cl (nI j7) = j7 := cl_nI (by omega)
        refine v_if_ne (tgt := 49) C dX5_basket_42 (by decide) (fun c8 => ?_) (fun c8 => absurd c8 (by decide))
        refine v_aload_n C 1 rfl dX5_basket_49 rfl ?_
        refine v_get (v := .int (nI (ns 25))) C F_X5_198 hm.1 rfl dX5_basket_50 ?_
        refine v_bipush (v := 6) C dX5_basket_53 (by decide) ?_
        refine v_icmp_ne (tgt := 62) C dX5_basket_55 (by decide) (fun c9 => ?_) (fun c9 => ?_)
        · have c9 := (nk_ne (a := (ns 25)) 6 (by decide) (by omega) (by decide)).mp c9
          refine v_iconst (v := 0) C dX5_basket_62 (by decide) ?_
          refine v_put C (mC ad (upN ns 0 0)) P_X5_85 hm.1 rfl rfl rfl (Nat.le_of_ble_eq_true rfl) dX5_basket_63 (v_nw (fun h10 eh10 => ?_))
          have hm10 := hm.putS 0 0 rfl eh10
          refine v_aload_n C 1 rfl dX5_basket_66 rfl ?_
          refine v_get (v := .int (nI 0)) C F_X5_85 hm10.1 rfl dX5_basket_67 ?_
          refine v_if_le (tgt := 75) C dX5_basket_70 (by decide) (fun c11 => ?_) (fun c11 => absurd c11 (by decide))
          refine v_aload_n C 1 rfl dX5_basket_75 rfl ?_
          refine v_get (v := .ref (ad 26)) C F_X5_73 hm10.1 rfl dX5_basket_76 ?_
          refine v_aload_n C 1 rfl dX5_basket_79 rfl ?_
          refine v_get (v := .int (nI (ns 25))) C F_X5_198 hm10.1 rfl dX5_basket_80 ?_
          refine v_iload_n C 2 rfl dX5_basket_83 rfl ?_
          refine v_iast C (hm10.2.2.1 26 rfl) (vpin (show (ns 25) < 6 by omega) (by decide)) dX5_basket_84 (v_nw (fun h12 eh12 => ?_))
          have hm12 := hm10.putI2 (k := 26) rfl (g := (ia 26)) (i := (ns 25)) (v := f) (by omega) eh12
          refine v_aload_n C 1 rfl dX5_basket_85 rfl ?_
          refine v_get (v := .ref (ad 27)) C F_X5_76 hm12.1 rfl dX5_basket_86 ?_
          refine v_aload_n C 1 rfl dX5_basket_89 rfl ?_
          refine v_get (v := .int (nI (ns 25))) C F_X5_198 hm12.1 rfl dX5_basket_90 ?_
          refine v_iload_n C 3 rfl dX5_basket_93 rfl ?_
          refine v_iast C (hm12.2.1 27 rfl) (vpin (show (ns 25) < 6 by omega) (by decide)) dX5_basket_94 (v_nw (fun h13 eh13 => ?_))
          have hm13 := hm12.putN (k := 27) rfl (g := (na 27)) (i := (ns 25)) (v := j7) (by omega) eh13
          refine v_aload_n C 1 rfl dX5_basket_95 rfl ?_
          refine v_get (v := .ref (ad 28)) C F_X5_79 hm13.1 rfl dX5_basket_96 ?_
          refine v_aload_n C 1 rfl dX5_basket_99 rfl ?_
          refine v_get (v := .int (nI (ns 25))) C F_X5_198 hm13.1 rfl dX5_basket_100 ?_
          refine v_iload_n C 4 rfl dX5_basket_103 rfl ?_
          refine v_iast C (hm13.2.2.1 28 rfl) (vpin (show (ns 25) < 6 by omega) (by decide)) dX5_basket_104 (v_nw (fun h14 eh14 => ?_))
          have hm14 := hm13.putI2 (k := 28) rfl (g := (ia 28)) (i := (ns 25)) (v := p) (by omega) eh14
          refine v_aload_n C 1 rfl dX5_basket_105 rfl ?_
          refine v_dup C dX5_basket_106 rfl ?_
          refine v_get (v := .int (nI (ns 25))) C F_X5_198 hm14.1 rfl dX5_basket_107 ?_
          refine v_iconst (v := 1) C dX5_basket_110 (by decide) ?_
          refine v_iadd C dX5_basket_111 (v_eqi (nI_adk (ns 25) 1 (by decide)) ?_)
          refine v_put C (mC ad (upN (upN ns 0 0) 25 ((ns 25) + 1))) P_X5_198 hm14.1 rfl rfl rfl (Nat.le_of_ble_eq_true rfl) dX5_basket_112 (v_nw (fun h16 eh16 => ?_))
          have hm16 := hm14.putS 25 ((ns 25) + 1) rfl eh16
          refine v_aload_n C 1 rfl dX5_basket_115 rfl ?_
          refine v_get (v := .int (nI ((ns 25) + 1))) C F_X5_198 hm16.1 rfl dX5_basket_116 ?_
          refine v_iconst (v := 1) C dX5_basket_119 (by decide) ?_
          refine v_isub C dX5_basket_120 (v_eqi (y := (nI (ns 25))) (nI_p1m1 (ns 25)) ?_)
          have ek : (kBasket s f (nI j7) p) = 0 := by simp [kBasket, inN, wth, c1, c3, c6, c9, e7, e25]
          exact v_iret C hQ hr rfl (Nat.le_of_ble_eq_true rfl) (Nat.le_of_ble_eq_true rfl) dX5_basket_121 (Or.inl ⟨ek, ⟨_, _, _, _, hm16, (by unfold nBasket; rw [eCt]; exact hs.basket hw rfl rfl rfl rfl), rfl⟩, (congrArg nI e25).symm⟩)
        · have c9 := (nk_ne_f (a := (ns 25)) 6 (by decide) (by omega) (by decide)).mp c9
          refine v_iconst (v := 3) C dX5_basket_58 (by decide) ?_
          refine v_goto (tgt := 63) C dX5_basket_59 (by decide) ?_
          refine v_put C (mC ad (upN ns 0 3)) P_X5_85 hm.1 rfl rfl rfl (Nat.le_of_ble_eq_true rfl) dX5_basket_63 (v_nw (fun h18 eh18 => ?_))
          have hm18 := hm.putS 0 3 rfl eh18
          refine v_aload_n C 1 rfl dX5_basket_66 rfl ?_
          refine v_get (v := .int (nI 3)) C F_X5_85 hm18.1 rfl dX5_basket_67 ?_
          refine v_if_le (tgt := 75) C dX5_basket_70 (by decide) (fun c19 => absurd c19 (by decide)) (fun c19 => ?_)
          refine v_iconst (v := 0) C dX5_basket_73 (by decide) ?_
          have ek : (kBasket s f (nI j7) p) = 3 := by simp [kBasket, inN, wth, c1, c3, c6, c9, e7, e25]
          exact v_iret C hQ hr rfl (Nat.le_of_ble_eq_true rfl) (Nat.le_of_ble_eq_true rfl) dX5_basket_74 (Or.inr ⟨(by rw [ek]; decide), (by rw [ek]; exact ⟨_, _, _, _, hm18, hs.thr _, rfl⟩)⟩)
      · rw [zb_f c6] at e6; subst e6
        refine v_if_ne (tgt := 49) C dX5_basket_42 (by decide) (fun c20 => absurd c20 (by decide)) (fun c20 => ?_)
        refine v_iconst (v := 2) C dX5_basket_45 (by decide) ?_
        refine v_goto (tgt := 63) C dX5_basket_46 (by decide) ?_
        refine v_put C (mC ad (upN ns 0 2)) P_X5_85 hm.1 rfl rfl rfl (Nat.le_of_ble_eq_true rfl) dX5_basket_63 (v_nw (fun h21 eh21 => ?_))
        have hm21 := hm.putS 0 2 rfl eh21
        refine v_aload_n C 1 rfl dX5_basket_66 rfl ?_
        refine v_get (v := .int (nI 2)) C F_X5_85 hm21.1 rfl dX5_basket_67 ?_
        refine v_if_le (tgt := 75) C dX5_basket_70 (by decide) (fun c22 => absurd c22 (by decide)) (fun c22 => ?_)
        refine v_iconst (v := 0) C dX5_basket_73 (by decide) ?_
        have ek : (kBasket s f t p) = 2 := by simp [kBasket, inN, wth, c1, c3, c6, e7, e25]
        exact v_iret C hQ hr rfl (Nat.le_of_ble_eq_true rfl) (Nat.le_of_ble_eq_true rfl) dX5_basket_74 (Or.inr ⟨(by rw [ek]; decide), (by rw [ek]; exact ⟨_, _, _, _, hm21, hs.thr _, rfl⟩)⟩)
    · rw [zb_f c3] at e3; subst e3
      refine v_if_eq (tgt := 24) C dX5_basket_17 (by decide) (fun c23 => ?_) (fun c23 => absurd c23 (by decide))
      refine v_iconst (v := 0) C dX5_basket_24 (by decide) ?_
      refine v_istore C [(4, .int 0), (0, .ref m), (1, .int f), (2, .int t), (3, .int p)] rfl (by decide) dX5_basket_25 ?_
      refine v_aload_n C 1 rfl dX5_basket_27 rfl ?_
      refine v_iload C 0 rfl dX5_basket_28 ?_
      refine v_if_ne (tgt := 37) C dX5_basket_30 (by decide) (fun c24 => absurd c24 (by decide)) (fun c24 => ?_)
      refine v_iconst (v := 1) C dX5_basket_33 (by decide) ?_
      refine v_goto (tgt := 63) C dX5_basket_34 (by decide) ?_
      refine v_put C (mC ad (upN ns 0 1)) P_X5_85 hm.1 rfl rfl rfl (Nat.le_of_ble_eq_true rfl) dX5_basket_63 (v_nw (fun h25 eh25 => ?_))
      have hm25 := hm.putS 0 1 rfl eh25
      refine v_aload_n C 1 rfl dX5_basket_66 rfl ?_
      refine v_get (v := .int (nI 1)) C F_X5_85 hm25.1 rfl dX5_basket_67 ?_
      refine v_if_le (tgt := 75) C dX5_basket_70 (by decide) (fun c26 => absurd c26 (by decide)) (fun c26 => ?_)
      refine v_iconst (v := 0) C dX5_basket_73 (by decide) ?_
      have ek : (kBasket s f t p) = 1 := by simp [kBasket, inN, wth, c1, c3, e7, e25]
      exact v_iret C hQ hr rfl (Nat.le_of_ble_eq_true rfl) (Nat.le_of_ble_eq_true rfl) dX5_basket_74 (Or.inr ⟨(by rw [ek]; decide), (by rw [ek]; exact ⟨_, _, _, _, hm25, hs.thr _, rfl⟩)⟩)
  · rw [zb_f c1] at e1; subst e1
    refine v_if_eq (tgt := 24) C dX5_basket_7 (by decide) (fun c27 => ?_) (fun c27 => absurd c27 (by decide))
    refine v_iconst (v := 0) C dX5_basket_24 (by decide) ?_
    refine v_istore C [(4, .int 0), (0, .ref m), (1, .int f), (2, .int t), (3, .int p)] rfl (by decide) dX5_basket_25 ?_
    refine v_aload_n C 1 rfl dX5_basket_27 rfl ?_
    refine v_iload C 0 rfl dX5_basket_28 ?_
    refine v_if_ne (tgt := 37) C dX5_basket_30 (by decide) (fun c28 => absurd c28 (by decide)) (fun c28 => ?_)
    refine v_iconst (v := 1) C dX5_basket_33 (by decide) ?_
    refine v_goto (tgt := 63) C dX5_basket_34 (by decide) ?_
    refine v_put C (mC ad (upN ns 0 1)) P_X5_85 hm.1 rfl rfl rfl (Nat.le_of_ble_eq_true rfl) dX5_basket_63 (v_nw (fun h29 eh29 => ?_))
    have hm29 := hm.putS 0 1 rfl eh29
    refine v_aload_n C 1 rfl dX5_basket_66 rfl ?_
    refine v_get (v := .int (nI 1)) C F_X5_85 hm29.1 rfl dX5_basket_67 ?_
    refine v_if_le (tgt := 75) C dX5_basket_70 (by decide) (fun c30 => absurd c30 (by decide)) (fun c30 => ?_)
    refine v_iconst (v := 0) C dX5_basket_73 (by decide) ?_
    have ek : (kBasket s f t p) = 1 := by simp [kBasket, inN, wth, c1, e7, e25]
    exact v_iret C hQ hr rfl (Nat.le_of_ble_eq_true rfl) (Nat.le_of_ble_eq_true rfl) dX5_basket_74 (Or.inr ⟨(by rw [ek]; decide), (by rw [ek]; exact ⟨_, _, _, _, hm29, hs.thr _, rfl⟩)⟩)
set_option maxHeartbeats 4000000 in
set_option maxRecDepth 100000 in
theorem c_X5_refill (l : Launch) (hl : l.stackTraces = false) (G : zG) (m : Nat) (ad : Nat → Nat) (ns : Nat → Nat) (na : Nat → Nat → Nat) (ia : Nat → Nat → Int32) (la : Nat → Nat → Int64) (h0 : zH) (s : ZS) (b v : Int32) (h : zH) (hm : MR G h0 h m ad ns na ia la) (hs : MS s ns na ia la) (hw : WFs s)  : zMet eL l yX5_refill cX5_refill 3 (some .long) 14 0 0 G [.ref m, .int b, .int v] h (fun res h2 => ((kRefill s b v) = 0 ∧ MO G h0 h2 m ad (nUse s b (bU s (cl b) - v.toInt64)) 0 ∧ res = bU s (cl b) - v.toInt64) ∨ ((kRefill s b v) ≠ 0 ∧ MO G h0 h2 m ad s (kRefill s b v))) := by
  refine con_of hl RX5 rfl (by decide +kernel) [(0, .ref m), (1, .int b), (2, .int v)] rfl (Nat.le_of_ble_eq_true rfl) ?_
  intro zp ze zs zm zargs zbelow zmeth zc C hr hin Q hQ
  have e2 : (oS s).length = ns 2 := hs.2.1.1.symm
  have e7 : oN s = ns 7 := hs.2.2.1.1.symm
  have e17 : rN s = ns 17 := hs.2.2.2.1.1.symm
  have e25 : bN s = ns 25 := hs.2.2.2.2.1.symm
  have hw2 : ns 2 ≤ 8 := by rw [← e2]; exact hw.1
  have hw7 : ns 7 ≤ 10 := by rw [← e7]; exact hw.2.2.1.1
  have hw17 : ns 17 ≤ 6 := by rw [← e17]; exact hw.2.2.2.2.1.1
  have hw25 : ns 25 ≤ 6 := by rw [← e25]; exact hw.2.2.2.2.2.1
  refine v_aload_n C 0 rfl dX5_refill_0 rfl ?_
  refine v_aload_n C 0 rfl dX5_refill_1 rfl ?_
  refine v_iload_n C 1 rfl dX5_refill_2 rfl ?_
  refine v_callV (rest := [.ref m]) C (c_X5_isBasket l hl G m ad ns na ia la h0 b h hm (by omega)) K_X5_201 hm.1 rfl rfl (Nat.le_of_ble_eq_true rfl) ⟨Nat.le_of_ble_eq_true rfl, Nat.le_of_ble_eq_true rfl⟩ ⟨Nat.le_of_ble_eq_true rfl, Nat.le_of_ble_eq_true rfl⟩ dX5_refill_3 (fun i1 h1 q1 => ?_)
  obtain ⟨e1, rfl⟩ := q1
  by_cases c1 : inN b (ns 25)
  · rw [zb_t c1] at e1; subst e1
    obtain ⟨j2, hj2, en2⟩ := inN.nat c1 (by omega)
    subst en2
    have eCb : cl (nI j2) = j2 := cl_nI (by omega)
    have hU : bU s j2 = la 29 j2 := (hs.2.2.2.2.2 j2 (by omega)).2.2.2.symm
    refine v_if_ne (tgt := 13) C dX5_refill_6 (by decide) (fun c3 => ?_) (fun c3 => absurd c3 (by decide))
    refine v_iload_n C 2 rfl dX5_refill_13 rfl ?_
    refine v_iconst (v := 1) C dX5_refill_14 (by decide) ?_
    refine v_ldc C KO_X5_104 dX5_refill_15 ?_
    refine v_callS (rest := [.ref m]) C (c_X5_isIn l hl G  v 1 1000000 h ) S_X5_89 rfl rfl (Nat.le_of_ble_eq_true rfl) ⟨Nat.le_of_ble_eq_true rfl, Nat.le_of_ble_eq_true rfl⟩ ⟨Nat.le_of_ble_eq_true rfl, Nat.le_of_ble_eq_true rfl⟩ dX5_refill_17 (fun i4 h4 q4 => ?_)
    obtain ⟨e4, rfl⟩ := q4
    by_cases c4 : wth v 1 1000000
    · rw [zb_t c4] at e4; subst e4
      refine v_if_ne (tgt := 27) C dX5_refill_20 (by decide) (fun c5 => ?_) (fun c5 => absurd c5 (by decide))
      refine v_aload_n C 0 rfl dX5_refill_27 rfl ?_
      refine v_get (v := .ref (ad 29)) C F_X5_82 hm.1 rfl dX5_refill_28 ?_
      refine v_iload_n C 1 rfl dX5_refill_31 rfl ?_
      refine v_lald C (hm.2.2.2.1 29 rfl) (vpin (show j2 < 6 by omega) (by decide)) dX5_refill_32 (v_eql (y := (la 29) j2) (congrArg (la 29) (nI_clamp (show j2 < 2 ^ 31 by omega))) ?_)
      refine v_iload_n C 2 rfl dX5_refill_33 rfl ?_
      refine v_i2l (v := (v : Int32).toInt64) C dX5_refill_34 rfl ?_
      refine v_lcmp C dX5_refill_35 ?_
      refine v_if_ge (tgt := 43) C dX5_refill_36 (by decide) (fun c6 => ?_) (fun c6 => ?_)
      · have c6 := (lgc_ge ((la 29) j2) (Int32.toInt64 v)).mp c6
        have c9 : ¬ la 29 j2 < Int32.toInt64 v := Int64.not_lt.mpr c6
        refine v_iconst (v := 0) C dX5_refill_43 (by decide) ?_
        refine v_put C (mC ad (upN ns 0 0)) P_X5_85 hm.1 rfl rfl rfl (Nat.le_of_ble_eq_true rfl) dX5_refill_44 (v_nw (fun h7 eh7 => ?_))
        have hm7 := hm.putS 0 0 rfl eh7
        refine v_aload_n C 0 rfl dX5_refill_47 rfl ?_
        refine v_get (v := .int (nI 0)) C F_X5_85 hm7.1 rfl dX5_refill_48 ?_
        refine v_if_le (tgt := 56) C dX5_refill_51 (by decide) (fun c8 => ?_) (fun c8 => absurd c8 (by decide))
        refine v_aload_n C 0 rfl dX5_refill_56 rfl ?_
        refine v_get (v := .ref (ad 29)) C F_X5_82 hm7.1 rfl dX5_refill_57 ?_
        refine v_iload_n C 1 rfl dX5_refill_60 rfl ?_
        refine v_dup2_11 C dX5_refill_61 rfl rfl ?_
        refine v_lald C (hm7.2.2.2.1 29 rfl) (vpin (show j2 < 6 by omega) (by decide)) dX5_refill_62 (v_eql (y := (la 29) j2) (congrArg (la 29) (nI_clamp (show j2 < 2 ^ 31 by omega))) ?_)
        refine v_iload_n C 2 rfl dX5_refill_63 rfl ?_
        refine v_i2l (v := (v : Int32).toInt64) C dX5_refill_64 rfl ?_
        refine v_lsub C dX5_refill_65 (v_eql (y := (((la 29) j2) - (Int32.toInt64 v))) (rfl) ?_)
        refine v_last C (hm7.2.2.2.1 29 rfl) (vpin (show j2 < 6 by omega) (by decide)) dX5_refill_66 (v_nw (fun h10 eh10 => ?_))
        have hm10 := hm7.putL2 (k := 29) rfl (g := (la 29)) (i := j2) (v := (((la 29) j2) - (Int32.toInt64 v))) (by omega) eh10
        refine v_aload_n C 0 rfl dX5_refill_67 rfl ?_
        refine v_get (v := .ref (ad 29)) C F_X5_82 hm10.1 rfl dX5_refill_68 ?_
        refine v_iload_n C 1 rfl dX5_refill_71 rfl ?_
        refine v_lald C (hm10.2.2.2.1 29 rfl) (vpin (show j2 < 6 by omega) (by decide)) dX5_refill_72 (v_eql (y := (up2 (la 29) j2 (((la 29) j2) - (Int32.toInt64 v))) j2) (congrArg (up2 (la 29) j2 (((la 29) j2) - (Int32.toInt64 v))) (nI_clamp (show j2 < 2 ^ 31 by omega))) ?_)
        have ek : (kRefill s (nI j2) v) = 0 := by simp [kRefill, inN, wth, c1, c4, c9, eCb, hU, e25]
        exact v_lret C hQ hr (Nat.le_of_ble_eq_true rfl) (Nat.le_of_ble_eq_true rfl) dX5_refill_73 (Or.inl ⟨ek, ⟨_, _, _, _, hm10, (by unfold nUse; rw [eCb, hU]; exact hs.used rfl rfl rfl rfl), rfl⟩, (by rw [eCb, up2_s, hU])⟩)
      · have c6 := (lgc_ge_f ((la 29) j2) (Int32.toInt64 v)).mp c6
        have c9 : la 29 j2 < Int32.toInt64 v := Int64.not_le.mp c6
        refine v_iconst (v := 3) C dX5_refill_39 (by decide) ?_
        refine v_goto (tgt := 44) C dX5_refill_40 (by decide) ?_
        refine v_put C (mC ad (upN ns 0 3)) P_X5_85 hm.1 rfl rfl rfl (Nat.le_of_ble_eq_true rfl) dX5_refill_44 (v_nw (fun h11 eh11 => ?_))
        have hm11 := hm.putS 0 3 rfl eh11
        refine v_aload_n C 0 rfl dX5_refill_47 rfl ?_
        refine v_get (v := .int (nI 3)) C F_X5_85 hm11.1 rfl dX5_refill_48 ?_
        refine v_if_le (tgt := 56) C dX5_refill_51 (by decide) (fun c12 => absurd c12 (by decide)) (fun c12 => ?_)
        refine v_lconst (v := 0) C dX5_refill_54 (by decide) ?_
        have ek : (kRefill s (nI j2) v) = 3 := by simp [kRefill, inN, wth, c1, c4, c9, eCb, hU, e25]
        exact v_lret C hQ hr (Nat.le_of_ble_eq_true rfl) (Nat.le_of_ble_eq_true rfl) dX5_refill_55 (Or.inr ⟨(by rw [ek]; decide), (by rw [ek]; exact ⟨_, _, _, _, hm11, hs.thr _, rfl⟩)⟩)
    · rw [zb_f c4] at e4; subst e4
      refine v_if_ne (tgt := 27) C dX5_refill_20 (by decide) (fun c13 => absurd c13 (by decide)) (fun c13 => ?_)
      refine v_iconst (v := 2) C dX5_refill_23 (by decide) ?_
      refine v_goto (tgt := 44) C dX5_refill_24 (by decide) ?_
      refine v_put C (mC ad (upN ns 0 2)) P_X5_85 hm.1 rfl rfl rfl (Nat.le_of_ble_eq_true rfl) dX5_refill_44 (v_nw (fun h14 eh14 => ?_))
      have hm14 := hm.putS 0 2 rfl eh14
      refine v_aload_n C 0 rfl dX5_refill_47 rfl ?_
      refine v_get (v := .int (nI 2)) C F_X5_85 hm14.1 rfl dX5_refill_48 ?_
      refine v_if_le (tgt := 56) C dX5_refill_51 (by decide) (fun c15 => absurd c15 (by decide)) (fun c15 => ?_)
      refine v_lconst (v := 0) C dX5_refill_54 (by decide) ?_
      have ek : (kRefill s (nI j2) v) = 2 := by simp [kRefill, inN, wth, c1, c4, e25]
      exact v_lret C hQ hr (Nat.le_of_ble_eq_true rfl) (Nat.le_of_ble_eq_true rfl) dX5_refill_55 (Or.inr ⟨(by rw [ek]; decide), (by rw [ek]; exact ⟨_, _, _, _, hm14, hs.thr _, rfl⟩)⟩)
  · rw [zb_f c1] at e1; subst e1
    refine v_if_ne (tgt := 13) C dX5_refill_6 (by decide) (fun c16 => absurd c16 (by decide)) (fun c16 => ?_)
    refine v_iconst (v := 1) C dX5_refill_9 (by decide) ?_
    refine v_goto (tgt := 44) C dX5_refill_10 (by decide) ?_
    refine v_put C (mC ad (upN ns 0 1)) P_X5_85 hm.1 rfl rfl rfl (Nat.le_of_ble_eq_true rfl) dX5_refill_44 (v_nw (fun h17 eh17 => ?_))
    have hm17 := hm.putS 0 1 rfl eh17
    refine v_aload_n C 0 rfl dX5_refill_47 rfl ?_
    refine v_get (v := .int (nI 1)) C F_X5_85 hm17.1 rfl dX5_refill_48 ?_
    refine v_if_le (tgt := 56) C dX5_refill_51 (by decide) (fun c18 => absurd c18 (by decide)) (fun c18 => ?_)
    refine v_lconst (v := 0) C dX5_refill_54 (by decide) ?_
    have ek : (kRefill s b v) = 1 := by simp [kRefill, inN, wth, c1, e25]
    exact v_lret C hQ hr (Nat.le_of_ble_eq_true rfl) (Nat.le_of_ble_eq_true rfl) dX5_refill_55 (Or.inr ⟨(by rw [ek]; decide), (by rw [ek]; exact ⟨_, _, _, _, hm17, hs.thr _, rfl⟩)⟩)

def told (s : ZS) (f : Nat → Int64) : Prop := ∀ t z, t < oN s → z < 20 → f (20 * t + z) = oV s t z
set_option maxHeartbeats 4000000 in
set_option maxRecDepth 100000 in
theorem c_X5_value (l : Launch) (hl : l.stackTraces = false) (G : zG) (m : Nat) (ad : Nat → Nat) (ns : Nat → Nat) (na : Nat → Nat → Nat) (ia : Nat → Nat → Int32) (la : Nat → Nat → Int64) (h0 : zH) (s : ZS) (t q : Int32) (h : zH) (hm : MR G h0 h m ad ns na ia la) (hs : MS s ns na ia la) (hw : WFs s)  : zMet eL l yX5_value cX5_value 3 (some .long) 15 0 0 G [.ref m, .int t, .int q] h (fun res h2 => ((kIsTQ s t q) = 0 ∧ MO G h0 h2 m ad s 0 ∧ res = oV s (cl t) (cl q)) ∨ ((kIsTQ s t q) ≠ 0 ∧ MO G h0 h2 m ad s (kIsTQ s t q))) := by
  refine con_of hl RX5 rfl (by decide +kernel) [(0, .ref m), (1, .int t), (2, .int q)] rfl (Nat.le_of_ble_eq_true rfl) ?_
  intro zp ze zs zm zargs zbelow zmeth zc C hr hin Q hQ
  have e2 : (oS s).length = ns 2 := hs.2.1.1.symm
  have e7 : oN s = ns 7 := hs.2.2.1.1.symm
  have e17 : rN s = ns 17 := hs.2.2.2.1.1.symm
  have e25 : bN s = ns 25 := hs.2.2.2.2.1.symm
  have hw2 : ns 2 ≤ 8 := by rw [← e2]; exact hw.1
  have hw7 : ns 7 ≤ 10 := by rw [← e7]; exact hw.2.2.1.1
  have hw17 : ns 17 ≤ 6 := by rw [← e17]; exact hw.2.2.2.2.1.1
  have hw25 : ns 25 ≤ 6 := by rw [← e25]; exact hw.2.2.2.2.2.1
  refine v_aload_n C 0 rfl dX5_value_0 rfl ?_
  refine v_aload_n C 0 rfl dX5_value_1 rfl ?_
  refine v_iload_n C 1 rfl dX5_value_2 rfl ?_
  refine v_callV (rest := [.ref m]) C (c_X5_isTerm l hl G m ad ns na ia la h0 t h hm (by omega)) K_X5_116 hm.1 rfl rfl (Nat.le_of_ble_eq_true rfl) ⟨Nat.le_of_ble_eq_true rfl, Nat.le_of_ble_eq_true rfl⟩ ⟨Nat.le_of_ble_eq_true rfl, Nat.le_of_ble_eq_true rfl⟩ dX5_value_3 (fun i1 h1 q1 => ?_)
  obtain ⟨e1, rfl⟩ := q1
  by_cases c1 : inN t (ns 7)
  · rw [zb_t c1] at e1; subst e1
    obtain ⟨j2, hj2, en2⟩ := inN.nat c1 (by omega)
    subst en2
    have eCt : cl (nI j2) = j2 := cl_nI (by omega)
    refine v_if_eq (tgt := 20) C dX5_value_6 (by decide) (fun c3 => absurd c3 (by decide)) (fun c3 => ?_)
    refine v_iload_n C 2 rfl dX5_value_9 rfl ?_
    refine v_callS (rest := [.ref m]) C (c_X5_isQuarter l hl G  q h ) S_X5_100 rfl rfl (Nat.le_of_ble_eq_true rfl) ⟨Nat.le_of_ble_eq_true rfl, Nat.le_of_ble_eq_true rfl⟩ ⟨Nat.le_of_ble_eq_true rfl, Nat.le_of_ble_eq_true rfl⟩ dX5_value_10 (fun i4 h4 q4 => ?_)
    obtain ⟨e4, rfl⟩ := q4
    by_cases c4 : inN q 20
    · rw [zb_t c4] at e4; subst e4
      obtain ⟨j5, hj5, en5⟩ := inN.nat c4 (by omega)
      subst en5
      have eCq : cl (nI j5) = j5 := cl_nI (by omega)
      refine v_if_eq (tgt := 20) C dX5_value_13 (by decide) (fun c6 => absurd c6 (by decide)) (fun c6 => ?_)
      refine v_iconst (v := 0) C dX5_value_16 (by decide) ?_
      refine v_goto (tgt := 21) C dX5_value_17 (by decide) ?_
      refine v_put C (mC ad (upN ns 0 0)) P_X5_85 hm.1 rfl rfl rfl (Nat.le_of_ble_eq_true rfl) dX5_value_21 (v_nw (fun h7 eh7 => ?_))
      have hm7 := hm.putS 0 0 rfl eh7
      refine v_aload_n C 0 rfl dX5_value_24 rfl ?_
      refine v_get (v := .int (nI 0)) C F_X5_85 hm7.1 rfl dX5_value_25 ?_
      refine v_if_le (tgt := 33) C dX5_value_28 (by decide) (fun c8 => ?_) (fun c8 => absurd c8 (by decide))
      refine v_aload_n C 0 rfl dX5_value_33 rfl ?_
      refine v_callV (rest := []) C (c_X5_tells l hl G m ad (upN ns 0 0) na ia la h0 s h7 hm7 (hs.thr _) hw) K_X5_151 hm7.1 rfl rfl (Nat.le_of_ble_eq_true rfl) ⟨Nat.le_of_ble_eq_true rfl, Nat.le_of_ble_eq_true rfl⟩ ⟨Nat.le_of_ble_eq_true rfl, Nat.le_of_ble_eq_true rfl⟩ dX5_value_34 (fun _ h9 q9 => ?_)
      obtain ⟨w, u, hm9, hut⟩ := q9
      refine v_aload_n C 0 rfl dX5_value_37 rfl ?_
      refine v_get (v := .ref (ad 12)) C F_X5_37 hm9.1 rfl dX5_value_38 ?_
      refine v_bipush (v := 20) C dX5_value_41 (by decide) ?_
      refine v_iload_n C 1 rfl dX5_value_43 rfl ?_
      refine v_imul C dX5_value_44 (v_eqi (nI_kml j2 20 (by decide)) ?_)
      refine v_iload_n C 2 rfl dX5_value_45 rfl ?_
      refine v_iadd C dX5_value_46 (v_eqi (nI_add (20 * j2) j5) ?_)
      refine v_lald C (hm9.2.2.2.1 12 rfl) (vpin (show ((20 * j2) + j5) < 200 by omega) (by decide)) dX5_value_47 (v_eql (y := u ((20 * j2) + j5)) (congrArg u (nI_clamp (show ((20 * j2) + j5) < 2 ^ 31 by omega))) ?_)
      have ek : (kIsTQ s (nI j2) (nI j5)) = 0 := by simp [kIsTQ, inN, wth, c1, c4, e7]
      exact v_lret C hQ hr (Nat.le_of_ble_eq_true rfl) (Nat.le_of_ble_eq_true rfl) dX5_value_48 (Or.inl ⟨ek, ⟨_, _, _, _, hm9, (hs.free rfl rfl rfl rfl (fun _ _ _ => rfl) rfl), rfl⟩, (by rw [eCt, eCq]; exact hut j2 j5 (show j2 < oN s by rw [e7]; omega) (by omega))⟩)
    · rw [zb_f c4] at e4; subst e4
      refine v_if_eq (tgt := 20) C dX5_value_13 (by decide) (fun c12 => ?_) (fun c12 => absurd c12 (by decide))
      refine v_iconst (v := 1) C dX5_value_20 (by decide) ?_
      refine v_put C (mC ad (upN ns 0 1)) P_X5_85 hm.1 rfl rfl rfl (Nat.le_of_ble_eq_true rfl) dX5_value_21 (v_nw (fun h13 eh13 => ?_))
      have hm13 := hm.putS 0 1 rfl eh13
      refine v_aload_n C 0 rfl dX5_value_24 rfl ?_
      refine v_get (v := .int (nI 1)) C F_X5_85 hm13.1 rfl dX5_value_25 ?_
      refine v_if_le (tgt := 33) C dX5_value_28 (by decide) (fun c14 => absurd c14 (by decide)) (fun c14 => ?_)
      refine v_lconst (v := 0) C dX5_value_31 (by decide) ?_
      have ek : (kIsTQ s (nI j2) q) = 1 := by simp [kIsTQ, inN, wth, c1, c4, e7]
      exact v_lret C hQ hr (Nat.le_of_ble_eq_true rfl) (Nat.le_of_ble_eq_true rfl) dX5_value_32 (Or.inr ⟨(by rw [ek]; decide), (by rw [ek]; exact ⟨_, _, _, _, hm13, hs.thr _, rfl⟩)⟩)
  · rw [zb_f c1] at e1; subst e1
    refine v_if_eq (tgt := 20) C dX5_value_6 (by decide) (fun c15 => ?_) (fun c15 => absurd c15 (by decide))
    refine v_iconst (v := 1) C dX5_value_20 (by decide) ?_
    refine v_put C (mC ad (upN ns 0 1)) P_X5_85 hm.1 rfl rfl rfl (Nat.le_of_ble_eq_true rfl) dX5_value_21 (v_nw (fun h16 eh16 => ?_))
    have hm16 := hm.putS 0 1 rfl eh16
    refine v_aload_n C 0 rfl dX5_value_24 rfl ?_
    refine v_get (v := .int (nI 1)) C F_X5_85 hm16.1 rfl dX5_value_25 ?_
    refine v_if_le (tgt := 33) C dX5_value_28 (by decide) (fun c17 => absurd c17 (by decide)) (fun c17 => ?_)
    refine v_lconst (v := 0) C dX5_value_31 (by decide) ?_
    have ek : (kIsTQ s t q) = 1 := by simp [kIsTQ, inN, wth, c1, e7]
    exact v_lret C hQ hr (Nat.le_of_ble_eq_true rfl) (Nat.le_of_ble_eq_true rfl) dX5_value_32 (Or.inr ⟨(by rw [ek]; decide), (by rw [ek]; exact ⟨_, _, _, _, hm16, hs.thr _, rfl⟩)⟩)
set_option maxHeartbeats 4000000 in
set_option maxRecDepth 100000 in
theorem c_X5_isKept (l : Launch) (hl : l.stackTraces = false) (G : zG) (m : Nat) (ad : Nat → Nat) (ns : Nat → Nat) (na : Nat → Nat → Nat) (ia : Nat → Nat → Int32) (la : Nat → Nat → Int64) (h0 : zH) (s : ZS) (b q : Nat) (x : Int64) (h : zH) (hm : MR G h0 h m ad ns na ia la) (hs : MS s ns na ia la) (hw : WFs s) (hb : b < rN s) (hq : q < 20) (hut : told s (la 12)) : zMet eI l yX5_isKept cX5_isKept 9 (some .boolean) 13 0 0 G [.ref m, .int (nI b), .int (nI q), .long x] h (fun r h2 => r = zb (kept s b q x) ∧ h = h2) := by
  refine con_of hl RX5 rfl (by decide +kernel) [(0, .ref m), (1, .int (nI b)), (2, .int (nI q)), (3, .long x)] rfl (Nat.le_of_ble_eq_true rfl) ?_
  intro zp ze zs zm zargs zbelow zmeth zc C hr hin Q hQ
  have e17 : rN s = ns 17 := hs.2.2.2.1.1.symm
  have hr6 : rN s ≤ 6 := hw.2.2.2.2.1.1
  have hn10 : oN s ≤ 10 := hw.2.2.1.1
  obtain ⟨hx1, hx2, -⟩ := hs.2.2.2.1.2 b (by omega)
  obtain ⟨hy1, hy2, -⟩ := hw.2.2.2.2.1.2.1 b hb
  have hx1 : na 18 b = rT s b := hx1
  have hx2 : na 19 b = rB s b := hx2
  have hvt : la 12 (20 * na 18 b + q) = oV s (rT s b) q := by rw [hx1]; exact hut _ _ hy1 hq
  have hvb : la 12 (20 * na 19 b + q) = oV s (rB s b) q := by rw [hx2]; exact hut _ _ hy2 hq
  refine v_aload_n C 0 rfl dX5_isKept_0 rfl ?_
  refine v_get (v := .ref (ad 12)) C F_X5_37 hm.1 rfl dX5_isKept_1 ?_
  refine v_bipush (v := 20) C dX5_isKept_4 (by decide) ?_
  refine v_aload_n C 0 rfl dX5_isKept_6 rfl ?_
  refine v_get (v := .ref (ad 18)) C F_X5_51 hm.1 rfl dX5_isKept_7 ?_
  refine v_iload_n C 1 rfl dX5_isKept_10 rfl ?_
  refine v_iald C (hm.2.1 18 rfl) (vpin (show b < 6 by omega) (by decide)) dX5_isKept_11 (v_eqi (y := nI ((na 18) b)) (congrArg (fun j => nI ((na 18) j)) (nI_clamp (show b < 2 ^ 31 by omega))) ?_)
  refine v_imul C dX5_isKept_12 (v_eqi (nI_kml ((na 18) b) 20 (by decide)) ?_)
  refine v_iload_n C 2 rfl dX5_isKept_13 rfl ?_
  refine v_iadd C dX5_isKept_14 (v_eqi (nI_add (20 * ((na 18) b)) q) ?_)
  refine v_lald C (hm.2.2.2.1 12 rfl) (vpin (show ((20 * ((na 18) b)) + q) < 200 by omega) (by decide)) dX5_isKept_15 (v_eql (y := (la 12) ((20 * ((na 18) b)) + q)) (congrArg (la 12) (nI_clamp (show ((20 * ((na 18) b)) + q) < 2 ^ 31 by omega))) ?_)
  refine v_lstore C [(5, .long ((la 12) ((20 * ((na 18) b)) + q))), (0, .ref m), (1, .int (nI b)), (2, .int (nI q)), (3, .long x)] rfl (by decide) dX5_isKept_16 ?_
  refine v_aload_n C 1 rfl dX5_isKept_18 rfl ?_
  refine v_get (v := .ref (ad 12)) C F_X5_37 hm.1 rfl dX5_isKept_19 ?_
  refine v_bipush (v := 20) C dX5_isKept_22 (by decide) ?_
  refine v_aload_n C 1 rfl dX5_isKept_24 rfl ?_
  refine v_get (v := .ref (ad 19)) C F_X5_54 hm.1 rfl dX5_isKept_25 ?_
  refine v_iload_n C 2 rfl dX5_isKept_28 rfl ?_
  refine v_iald C (hm.2.1 19 rfl) (vpin (show b < 6 by omega) (by decide)) dX5_isKept_29 (v_eqi (y := nI ((na 19) b)) (congrArg (fun j => nI ((na 19) j)) (nI_clamp (show b < 2 ^ 31 by omega))) ?_)
  refine v_imul C dX5_isKept_30 (v_eqi (nI_kml ((na 19) b) 20 (by decide)) ?_)
  refine v_iload_n C 3 rfl dX5_isKept_31 rfl ?_
  refine v_iadd C dX5_isKept_32 (v_eqi (nI_add (20 * ((na 19) b)) q) ?_)
  refine v_lald C (hm.2.2.2.1 12 rfl) (vpin (show ((20 * ((na 19) b)) + q) < 200 by omega) (by decide)) dX5_isKept_33 (v_eql (y := (la 12) ((20 * ((na 19) b)) + q)) (congrArg (la 12) (nI_clamp (show ((20 * ((na 19) b)) + q) < 2 ^ 31 by omega))) ?_)
  refine v_lload_n C 4 rfl dX5_isKept_34 rfl ?_
  refine v_ladd C dX5_isKept_35 (v_eql (y := (((la 12) ((20 * ((na 19) b)) + q)) + x)) (rfl) ?_)
  refine v_lstore C [(7, .long (((la 12) ((20 * ((na 19) b)) + q)) + x)), (5, .long ((la 12) ((20 * ((na 18) b)) + q))), (0, .ref m), (1, .int (nI b)), (2, .int (nI q)), (3, .long x)] rfl (by decide) dX5_isKept_36 ?_
  refine v_lload C 0 rfl dX5_isKept_38 ?_
  refine v_lconst (v := 0) C dX5_isKept_40 (by decide) ?_
  refine v_lcmp C dX5_isKept_41 ?_
  refine v_if_le (tgt := 69) C dX5_isKept_42 (by decide) (fun c6 => ?_) (fun c6 => ?_)
  · have c6 := (lgc_le (((la 12) ((20 * ((na 19) b)) + q)) + x) 0).mp c6
    refine v_iconst (v := 0) C dX5_isKept_69 (by decide) ?_
    exact v_iret C hQ hr rfl (Nat.le_of_ble_eq_true rfl) (Nat.le_of_ble_eq_true rfl) dX5_isKept_70 ⟨(zb_f (by unfold kept; rw [← hvt, ← hvb]; exact fun z => Int64.not_le.mpr z.1 c6)).symm, rfl⟩
  · have c6 := (lgc_le_f (((la 12) ((20 * ((na 19) b)) + q)) + x) 0).mp c6
    refine v_ldc2 C KO_X5_186 dX5_isKept_45 ?_
    refine v_lload C 1 rfl dX5_isKept_48 ?_
    refine v_lmul C dX5_isKept_50 (v_eql (y := (100 * ((la 12) ((20 * ((na 18) b)) + q)))) (rfl) ?_)
    refine v_aload_n C 2 rfl dX5_isKept_51 rfl ?_
    refine v_iload_n C 3 rfl dX5_isKept_52 rfl ?_
    refine v_iload_n C 4 rfl dX5_isKept_53 rfl ?_
    refine v_callV (rest := [.long (100 * ((la 12) ((20 * ((na 18) b)) + q)))]) C (c_X5_limitOf l hl G m ad ns na ia la h0 b q (rL s b) h hm (by omega) (by omega) (fun z hz => ((hs.2.2.2.1.2 b (by omega)).2.2.2.2 z hz).1)) K_X5_188 hm.1 rfl rfl (Nat.le_of_ble_eq_true rfl) ⟨Nat.le_of_ble_eq_true rfl, Nat.le_of_ble_eq_true rfl⟩ ⟨Nat.le_of_ble_eq_true rfl, Nat.le_of_ble_eq_true rfl⟩ dX5_isKept_54 (fun i8 h8 q8 => ?_)
    obtain ⟨e8, rfl⟩ := q8; subst e8
    refine v_i2l (v := ((lmA (rL s b) q) : Int32).toInt64) C dX5_isKept_57 rfl ?_
    refine v_lload C 0 rfl dX5_isKept_58 ?_
    refine v_lmul C dX5_isKept_60 (v_eql (y := ((Int32.toInt64 (lmA (rL s b) q)) * (((la 12) ((20 * ((na 19) b)) + q)) + x))) (rfl) ?_)
    refine v_lcmp C dX5_isKept_61 ?_
    refine v_if_gt (tgt := 69) C dX5_isKept_62 (by decide) (fun c10 => ?_) (fun c10 => ?_)
    · have c10 := (lgc_gt (100 * ((la 12) ((20 * ((na 18) b)) + q))) ((Int32.toInt64 (lmA (rL s b) q)) * (((la 12) ((20 * ((na 19) b)) + q)) + x))).mp c10
      refine v_iconst (v := 0) C dX5_isKept_69 (by decide) ?_
      exact v_iret C hQ hr rfl (Nat.le_of_ble_eq_true rfl) (Nat.le_of_ble_eq_true rfl) dX5_isKept_70 ⟨(zb_f (by unfold kept; rw [← hvt, ← hvb]; exact fun z => Int64.not_lt.mpr z.2 c10)).symm, rfl⟩
    · have c10 := (lgc_gt_f (100 * ((la 12) ((20 * ((na 18) b)) + q))) ((Int32.toInt64 (lmA (rL s b) q)) * (((la 12) ((20 * ((na 19) b)) + q)) + x))).mp c10
      refine v_iconst (v := 1) C dX5_isKept_65 (by decide) ?_
      refine v_goto (tgt := 70) C dX5_isKept_66 (by decide) ?_
      exact v_iret C hQ hr rfl (Nat.le_of_ble_eq_true rfl) (Nat.le_of_ble_eq_true rfl) dX5_isKept_70 ⟨(zb_t (by unfold kept; rw [← hvt, ← hvb]; exact ⟨Int64.not_le.mp c6, Int64.not_lt.mp c10⟩)).symm, rfl⟩
set_option maxHeartbeats 4000000 in
set_option maxRecDepth 100000 in
theorem c_X5_stateOf (l : Launch) (hl : l.stackTraces = false) (G : zG) (m : Nat) (ad : Nat → Nat) (ns : Nat → Nat) (na : Nat → Nat → Nat) (ia : Nat → Nat → Int32) (la : Nat → Nat → Int64) (h0 : zH) (s : ZS) (b q : Nat) (h : zH) (hm : MR G h0 h m ad ns na ia la) (hs : MS s ns na ia la) (hw : WFs s) (hb : b < rN s) (hq : q < 20) (hut : told s (la 12)) : zMet eI l yX5_stateOf cX5_stateOf 5 (some .int) 14 0 0 G [.ref m, .int (nI b), .int (nI q)] h (fun r h2 => r = nI (vState s b q) ∧ h = h2) := by
  refine con_of hl RX5 rfl (by decide +kernel) [(0, .ref m), (1, .int (nI b)), (2, .int (nI q))] rfl (Nat.le_of_ble_eq_true rfl) ?_
  intro zp ze zs zm zargs zbelow zmeth zc C hr hin Q hQ
  have e17 : rN s = ns 17 := hs.2.2.2.1.1.symm
  have hr6 : rN s ≤ 6 := hw.2.2.2.2.1.1
  have hn10 : oN s ≤ 10 := hw.2.2.1.1
  obtain ⟨hx1, hx2, -⟩ := hs.2.2.2.1.2 b (by omega)
  obtain ⟨hy1, hy2, -⟩ := hw.2.2.2.2.1.2.1 b hb
  have hx1 : na 18 b = rT s b := hx1
  have hx2 : na 19 b = rB s b := hx2
  have hvt : la 12 (20 * na 18 b + q) = oV s (rT s b) q := by rw [hx1]; exact hut _ _ hy1 hq
  have hvb : la 12 (20 * na 19 b + q) = oV s (rB s b) q := by rw [hx2]; exact hut _ _ hy2 hq
  obtain ⟨-, -, hx3, hx4, hx5⟩ := hs.2.2.2.1.2 b (by omega)
  have hx3 : ia 21 b = rW s b := hx3
  have hx4 : ia 22 b = rE s b := hx4
  have hx6 : ia 23 (20 * b + q) = rC s b q := (hx5 q hq).2.1
  have hx7 : ia 24 (20 * b + q) = b01 (rV s b q) := (hx5 q hq).2.2
  have hy3 := (hw.2.2.2.2.1.2.1 b hb).2.2.1
  have hc0 : 0 ≤ rC s b q := wth_0 ((hw.2.2.2.2.1.2.1 b hb).2.2.2 q hq).2
  refine v_aload_n C 0 rfl dX5_stateOf_0 rfl ?_
  refine v_get (v := .ref (ad 21)) C F_X5_60 hm.1 rfl dX5_stateOf_1 ?_
  refine v_iload_n C 1 rfl dX5_stateOf_4 rfl ?_
  refine v_iald C (hm.2.2.1 21 rfl) (vpin (show b < 6 by omega) (by decide)) dX5_stateOf_5 (v_eqi (y := (ia 21) b) (congrArg (ia 21) (nI_clamp (show b < 2 ^ 31 by omega))) ?_)
  refine v_iconst (v := (-1)) C dX5_stateOf_6 (by decide) ?_
  refine v_icmp_eq (tgt := 53) C dX5_stateOf_7 (by decide) (fun c1 => ?_) (fun c1 => ?_)
  · have hdz : ¬ dozes s b q := fun z => z.1 (by rw [← hx3]; exact c1)
    refine v_iconst (v := 0) C dX5_stateOf_53 (by decide) ?_
    refine v_istore_n C [(3, .int 0), (0, .ref m), (1, .int (nI b)), (2, .int (nI q))] rfl (by decide) dX5_stateOf_54 rfl ?_
    refine v_iload_n C 0 rfl dX5_stateOf_55 rfl ?_
    refine v_if_ne (tgt := 69) C dX5_stateOf_56 (by decide) (fun c2 => absurd c2 (by decide)) (fun c2 => ?_)
    refine v_aload_n C 1 rfl dX5_stateOf_59 rfl ?_
    refine v_iload_n C 2 rfl dX5_stateOf_60 rfl ?_
    refine v_iload_n C 3 rfl dX5_stateOf_61 rfl ?_
    refine v_callV (rest := []) C (c_X5_limitOf l hl G m ad ns na ia la h0 b q (rL s b) h hm (by omega) (by omega) (fun z hz => ((hs.2.2.2.1.2 b (by omega)).2.2.2.2 z hz).1)) K_X5_188 hm.1 rfl rfl (Nat.le_of_ble_eq_true rfl) ⟨Nat.le_of_ble_eq_true rfl, Nat.le_of_ble_eq_true rfl⟩ ⟨Nat.le_of_ble_eq_true rfl, Nat.le_of_ble_eq_true rfl⟩ dX5_stateOf_62 (fun i3 h3 q3 => ?_)
    obtain ⟨e3, rfl⟩ := q3; subst e3
    refine v_iconst (v := (-1)) C dX5_stateOf_65 (by decide) ?_
    refine v_icmp_ne (tgt := 71) C dX5_stateOf_66 (by decide) (fun c4 => ?_) (fun c4 => ?_)
    · refine v_aload_n C 1 rfl dX5_stateOf_71 rfl ?_
      refine v_get (v := .ref (ad 23)) C F_X5_66 hm.1 rfl dX5_stateOf_72 ?_
      refine v_bipush (v := 20) C dX5_stateOf_75 (by decide) ?_
      refine v_iload_n C 2 rfl dX5_stateOf_77 rfl ?_
      refine v_imul C dX5_stateOf_78 (v_eqi (nI_kml b 20 (by decide)) ?_)
      refine v_iload_n C 3 rfl dX5_stateOf_79 rfl ?_
      refine v_iadd C dX5_stateOf_80 (v_eqi (nI_add (20 * b) q) ?_)
      refine v_iald C (hm.2.2.1 23 rfl) (vpin (show ((20 * b) + q) < 120 by omega) (by decide)) dX5_stateOf_81 (v_eqi (y := (ia 23) ((20 * b) + q)) (congrArg (ia 23) (nI_clamp (show ((20 * b) + q) < 2 ^ 31 by omega))) ?_)
      refine v_istore C [(4, .int ((ia 23) ((20 * b) + q))), (3, .int 0), (0, .ref m), (1, .int (nI b)), (2, .int (nI q))] rfl (by decide) dX5_stateOf_82 ?_
      refine v_aload_n C 2 rfl dX5_stateOf_84 rfl ?_
      refine v_iload_n C 3 rfl dX5_stateOf_85 rfl ?_
      refine v_iload_n C 4 rfl dX5_stateOf_86 rfl ?_
      refine v_lconst (v := 0) C dX5_stateOf_87 (by decide) ?_
      refine v_callV (rest := []) C (c_X5_isKept l hl G m ad ns na ia la h0 s b q 0 h hm  hs hw hb hq hut) K_X5_191 hm.1 rfl rfl (Nat.le_of_ble_eq_true rfl) ⟨Nat.le_of_ble_eq_true rfl, Nat.le_of_ble_eq_true rfl⟩ ⟨Nat.le_of_ble_eq_true rfl, Nat.le_of_ble_eq_true rfl⟩ dX5_stateOf_88 (fun i7 h7 q7 => ?_)
      obtain ⟨e7, rfl⟩ := q7
      by_cases c7 : kept s b q 0
      · rw [zb_t c7] at e7; subst e7
        have hk0 : kept s b q 0 := c7
        refine v_if_eq (tgt := 96) C dX5_stateOf_91 (by decide) (fun c8 => absurd c8 (by decide)) (fun c8 => ?_)
        refine v_iconst (v := 1) C dX5_stateOf_94 (by decide) ?_
        exact v_iret C hQ hr rfl (Nat.le_of_ble_eq_true rfl) (Nat.le_of_ble_eq_true rfl) dX5_stateOf_95 ⟨(congrArg nI ((if_neg (fun z => z.elim hdz c4)).trans (if_pos hk0))).symm, rfl⟩
      · rw [zb_f c7] at e7; subst e7
        have hk0 : ¬ kept s b q 0 := c7
        refine v_if_eq (tgt := 96) C dX5_stateOf_91 (by decide) (fun c9 => ?_) (fun c9 => absurd c9 (by decide))
        refine v_iload C 0 rfl dX5_stateOf_96 ?_
        refine v_if_le (tgt := 117) C dX5_stateOf_98 (by decide) (fun c10 => ?_) (fun c10 => ?_)
        · have hk2 : ¬ kept s b q (rC s b q).toInt64 := by
              have z : rC s b q = 0 := Decidable.not_not.mp (fun y => (pos32 hc0).mpr y (by rw [← hx6]; exact c10))
              rw [z]; exact hk0
          refine v_aload_n C 2 rfl dX5_stateOf_117 rfl ?_
          refine v_get (v := .ref (ad 24)) C F_X5_69 hm.1 rfl dX5_stateOf_118 ?_
          refine v_bipush (v := 20) C dX5_stateOf_121 (by decide) ?_
          refine v_iload_n C 3 rfl dX5_stateOf_123 rfl ?_
          refine v_imul C dX5_stateOf_124 (v_eqi (nI_kml b 20 (by decide)) ?_)
          refine v_iload_n C 4 rfl dX5_stateOf_125 rfl ?_
          refine v_iadd C dX5_stateOf_126 (v_eqi (nI_add (20 * b) q) ?_)
          refine v_zald C (hm.2.2.1 24 rfl) (vpin (show ((20 * b) + q) < 120 by omega) (by decide)) dX5_stateOf_127 (v_eqi (y := (ia 24) ((20 * b) + q)) (congrArg (ia 24) (nI_clamp (show ((20 * b) + q) < 2 ^ 31 by omega))) ?_)
          refine v_if_eq (tgt := 135) C dX5_stateOf_128 (by decide) (fun c13 => ?_) (fun c13 => ?_)
          · refine v_iconst (v := 4) C dX5_stateOf_135 (by decide) ?_
            have hv7 : rV s b q = false := by
                cases hz : rV s b q
                · rfl
                · exact absurd (c13) (show ¬ (ia 24 (20 * b + q) = 0) by rw [hx7, hz]; decide)
            exact v_iret C hQ hr rfl (Nat.le_of_ble_eq_true rfl) (Nat.le_of_ble_eq_true rfl) dX5_stateOf_136 ⟨(congrArg nI ((if_neg (fun z => z.elim hdz c4)).trans ((if_neg hk0).trans ((if_neg hk2).trans (if_neg (by rw [hv7]; decide)))))).symm, rfl⟩
          · refine v_iconst (v := 3) C dX5_stateOf_131 (by decide) ?_
            refine v_goto (tgt := 136) C dX5_stateOf_132 (by decide) ?_
            have hv7 : rV s b q = true := by
                cases hz : rV s b q
                · exact absurd (show ia 24 (20 * b + q) = 0 by rw [hx7, hz]; rfl) c13
                · rfl
            exact v_iret C hQ hr rfl (Nat.le_of_ble_eq_true rfl) (Nat.le_of_ble_eq_true rfl) dX5_stateOf_136 ⟨(congrArg nI ((if_neg (fun z => z.elim hdz c4)).trans ((if_neg hk0).trans ((if_neg hk2).trans (if_pos hv7))))).symm, rfl⟩
        · refine v_aload_n C 2 rfl dX5_stateOf_101 rfl ?_
          refine v_iload_n C 3 rfl dX5_stateOf_102 rfl ?_
          refine v_iload_n C 4 rfl dX5_stateOf_103 rfl ?_
          refine v_iload C 0 rfl dX5_stateOf_104 ?_
          refine v_i2l (v := (((ia 23) ((20 * b) + q)) : Int32).toInt64) C dX5_stateOf_106 rfl ?_
          refine v_callV (rest := []) C (c_X5_isKept l hl G m ad ns na ia la h0 s b q (Int32.toInt64 ((ia 23) ((20 * b) + q))) h hm  hs hw hb hq hut) K_X5_191 hm.1 rfl rfl (Nat.le_of_ble_eq_true rfl) ⟨Nat.le_of_ble_eq_true rfl, Nat.le_of_ble_eq_true rfl⟩ ⟨Nat.le_of_ble_eq_true rfl, Nat.le_of_ble_eq_true rfl⟩ dX5_stateOf_107 (fun i14 h14 q14 => ?_)
          obtain ⟨e14, rfl⟩ := q14
          by_cases c14 : kept s b q (Int32.toInt64 ((ia 23) ((20 * b) + q)))
          · rw [zb_t c14] at e14; subst e14
            have hk2 : kept s b q (rC s b q).toInt64 := by rw [← hx6]; exact c14
            refine v_if_eq (tgt := 117) C dX5_stateOf_110 (by decide) (fun c15 => absurd c15 (by decide)) (fun c15 => ?_)
            refine v_iconst (v := 2) C dX5_stateOf_113 (by decide) ?_
            refine v_goto (tgt := 136) C dX5_stateOf_114 (by decide) ?_
            exact v_iret C hQ hr rfl (Nat.le_of_ble_eq_true rfl) (Nat.le_of_ble_eq_true rfl) dX5_stateOf_136 ⟨(congrArg nI ((if_neg (fun z => z.elim hdz c4)).trans ((if_neg hk0).trans (if_pos hk2)))).symm, rfl⟩
          · rw [zb_f c14] at e14; subst e14
            have hk2 : ¬ kept s b q (rC s b q).toInt64 := by rw [← hx6]; exact c14
            refine v_if_eq (tgt := 117) C dX5_stateOf_110 (by decide) (fun c16 => ?_) (fun c16 => absurd c16 (by decide))
            refine v_aload_n C 2 rfl dX5_stateOf_117 rfl ?_
            refine v_get (v := .ref (ad 24)) C F_X5_69 hm.1 rfl dX5_stateOf_118 ?_
            refine v_bipush (v := 20) C dX5_stateOf_121 (by decide) ?_
            refine v_iload_n C 3 rfl dX5_stateOf_123 rfl ?_
            refine v_imul C dX5_stateOf_124 (v_eqi (nI_kml b 20 (by decide)) ?_)
            refine v_iload_n C 4 rfl dX5_stateOf_125 rfl ?_
            refine v_iadd C dX5_stateOf_126 (v_eqi (nI_add (20 * b) q) ?_)
            refine v_zald C (hm.2.2.1 24 rfl) (vpin (show ((20 * b) + q) < 120 by omega) (by decide)) dX5_stateOf_127 (v_eqi (y := (ia 24) ((20 * b) + q)) (congrArg (ia 24) (nI_clamp (show ((20 * b) + q) < 2 ^ 31 by omega))) ?_)
            refine v_if_eq (tgt := 135) C dX5_stateOf_128 (by decide) (fun c19 => ?_) (fun c19 => ?_)
            · refine v_iconst (v := 4) C dX5_stateOf_135 (by decide) ?_
              have hv7 : rV s b q = false := by
                  cases hz : rV s b q
                  · rfl
                  · exact absurd (c19) (show ¬ (ia 24 (20 * b + q) = 0) by rw [hx7, hz]; decide)
              exact v_iret C hQ hr rfl (Nat.le_of_ble_eq_true rfl) (Nat.le_of_ble_eq_true rfl) dX5_stateOf_136 ⟨(congrArg nI ((if_neg (fun z => z.elim hdz c4)).trans ((if_neg hk0).trans ((if_neg hk2).trans (if_neg (by rw [hv7]; decide)))))).symm, rfl⟩
            · refine v_iconst (v := 3) C dX5_stateOf_131 (by decide) ?_
              refine v_goto (tgt := 136) C dX5_stateOf_132 (by decide) ?_
              have hv7 : rV s b q = true := by
                  cases hz : rV s b q
                  · exact absurd (show ia 24 (20 * b + q) = 0 by rw [hx7, hz]; rfl) c19
                  · rfl
              exact v_iret C hQ hr rfl (Nat.le_of_ble_eq_true rfl) (Nat.le_of_ble_eq_true rfl) dX5_stateOf_136 ⟨(congrArg nI ((if_neg (fun z => z.elim hdz c4)).trans ((if_neg hk0).trans ((if_neg hk2).trans (if_pos hv7))))).symm, rfl⟩
    · refine v_iconst (v := 0) C dX5_stateOf_69 (by decide) ?_
      exact v_iret C hQ hr rfl (Nat.le_of_ble_eq_true rfl) (Nat.le_of_ble_eq_true rfl) dX5_stateOf_70 ⟨(congrArg nI (if_pos (Or.inr c4))).symm, rfl⟩
  · obtain ⟨j, hj, hwj⟩ : ∃ j, j < 6 ∧ ia 21 b = nI j := by
        rcases hy3 with z | z
        · exact absurd (hx3.trans z) c1
        · rw [hx3]; exact z.nat (by decide)
    have hne := c1
    refine v_aload_n C 0 rfl dX5_stateOf_10 rfl ?_
    refine v_get (v := .ref (ad 1)) C F_X5_7 hm.1 rfl dX5_stateOf_11 ?_
    refine v_bipush (v := 20) C dX5_stateOf_14 (by decide) ?_
    refine v_aload_n C 0 rfl dX5_stateOf_16 rfl ?_
    refine v_get (v := .ref (ad 21)) C F_X5_60 hm.1 rfl dX5_stateOf_17 ?_
    refine v_iload_n C 1 rfl dX5_stateOf_20 rfl ?_
    refine v_iald C (hm.2.2.1 21 rfl) (vpin (show b < 6 by omega) (by decide)) dX5_stateOf_21 (v_eqi (y := (ia 21) b) (congrArg (ia 21) (nI_clamp (show b < 2 ^ 31 by omega))) ?_)
    refine v_iconst (v := (-1)) C dX5_stateOf_22 (by decide) ?_
    refine v_icmp_ne (tgt := 30) C dX5_stateOf_23 (by decide) (fun c20 => ?_) (fun c20 => absurd c20 hne)
    refine v_aload_n C 0 rfl dX5_stateOf_30 rfl ?_
    refine v_get (v := .ref (ad 21)) C F_X5_60 hm.1 rfl dX5_stateOf_31 ?_
    refine v_iload_n C 1 rfl dX5_stateOf_34 rfl ?_
    refine v_iald C (hm.2.2.1 21 rfl) (vpin (show b < 6 by omega) (by decide)) dX5_stateOf_35 (v_eqi (y := (ia 21) b) (congrArg (ia 21) (nI_clamp (show b < 2 ^ 31 by omega))) ?_)
    refine v_imul C dX5_stateOf_36 (v_eqi (y := (nI (20 * j))) ((by rw [hwj]; exact nI_kml j 20 (by decide))) ?_)
    refine v_iload_n C 2 rfl dX5_stateOf_37 rfl ?_
    refine v_iadd C dX5_stateOf_38 (v_eqi (nI_add (20 * j) q) ?_)
    refine v_iald C (hm.2.2.1 1 rfl) (vpin (show ((20 * j) + q) < 120 by omega) (by decide)) dX5_stateOf_39 (v_eqi (y := (ia 1) ((20 * j) + q)) (congrArg (ia 1) (nI_clamp (show ((20 * j) + q) < 2 ^ 31 by omega))) ?_)
    refine v_aload_n C 0 rfl dX5_stateOf_40 rfl ?_
    refine v_get (v := .ref (ad 22)) C F_X5_63 hm.1 rfl dX5_stateOf_41 ?_
    refine v_iload_n C 1 rfl dX5_stateOf_44 rfl ?_
    refine v_iald C (hm.2.2.1 22 rfl) (vpin (show b < 6 by omega) (by decide)) dX5_stateOf_45 (v_eqi (y := (ia 22) b) (congrArg (ia 22) (nI_clamp (show b < 2 ^ 31 by omega))) ?_)
    refine v_icmp_ge (tgt := 53) C dX5_stateOf_46 (by decide) (fun c23 => ?_) (fun c23 => ?_)
    · have hcl : cl (rW s b) = j := by rw [← hx3, hwj]; exact cl_nI (by omega)
      have hax : ia 1 (20 * j + q) = oA s j q := hs.1 j q hj hq
      have hdz : ¬ dozes s b q := fun z => by
          have y := z.2; rw [hcl, ← hax, ← hx4] at y; exact Int32.not_lt.mpr c23 y
      refine v_iconst (v := 0) C dX5_stateOf_53 (by decide) ?_
      refine v_istore_n C [(3, .int 0), (0, .ref m), (1, .int (nI b)), (2, .int (nI q))] rfl (by decide) dX5_stateOf_54 rfl ?_
      refine v_iload_n C 0 rfl dX5_stateOf_55 rfl ?_
      refine v_if_ne (tgt := 69) C dX5_stateOf_56 (by decide) (fun c24 => absurd c24 (by decide)) (fun c24 => ?_)
      refine v_aload_n C 1 rfl dX5_stateOf_59 rfl ?_
      refine v_iload_n C 2 rfl dX5_stateOf_60 rfl ?_
      refine v_iload_n C 3 rfl dX5_stateOf_61 rfl ?_
      refine v_callV (rest := []) C (c_X5_limitOf l hl G m ad ns na ia la h0 b q (rL s b) h hm (by omega) (by omega) (fun z hz => ((hs.2.2.2.1.2 b (by omega)).2.2.2.2 z hz).1)) K_X5_188 hm.1 rfl rfl (Nat.le_of_ble_eq_true rfl) ⟨Nat.le_of_ble_eq_true rfl, Nat.le_of_ble_eq_true rfl⟩ ⟨Nat.le_of_ble_eq_true rfl, Nat.le_of_ble_eq_true rfl⟩ dX5_stateOf_62 (fun i25 h25 q25 => ?_)
      obtain ⟨e25, rfl⟩ := q25; subst e25
      refine v_iconst (v := (-1)) C dX5_stateOf_65 (by decide) ?_
      refine v_icmp_ne (tgt := 71) C dX5_stateOf_66 (by decide) (fun c26 => ?_) (fun c26 => ?_)
      · refine v_aload_n C 1 rfl dX5_stateOf_71 rfl ?_
        refine v_get (v := .ref (ad 23)) C F_X5_66 hm.1 rfl dX5_stateOf_72 ?_
        refine v_bipush (v := 20) C dX5_stateOf_75 (by decide) ?_
        refine v_iload_n C 2 rfl dX5_stateOf_77 rfl ?_
        refine v_imul C dX5_stateOf_78 (v_eqi (nI_kml b 20 (by decide)) ?_)
        refine v_iload_n C 3 rfl dX5_stateOf_79 rfl ?_
        refine v_iadd C dX5_stateOf_80 (v_eqi (nI_add (20 * b) q) ?_)
        refine v_iald C (hm.2.2.1 23 rfl) (vpin (show ((20 * b) + q) < 120 by omega) (by decide)) dX5_stateOf_81 (v_eqi (y := (ia 23) ((20 * b) + q)) (congrArg (ia 23) (nI_clamp (show ((20 * b) + q) < 2 ^ 31 by omega))) ?_)
        refine v_istore C [(4, .int ((ia 23) ((20 * b) + q))), (3, .int 0), (0, .ref m), (1, .int (nI b)), (2, .int (nI q))] rfl (by decide) dX5_stateOf_82 ?_
        refine v_aload_n C 2 rfl dX5_stateOf_84 rfl ?_
        refine v_iload_n C 3 rfl dX5_stateOf_85 rfl ?_
        refine v_iload_n C 4 rfl dX5_stateOf_86 rfl ?_
        refine v_lconst (v := 0) C dX5_stateOf_87 (by decide) ?_
        refine v_callV (rest := []) C (c_X5_isKept l hl G m ad ns na ia la h0 s b q 0 h hm  hs hw hb hq hut) K_X5_191 hm.1 rfl rfl (Nat.le_of_ble_eq_true rfl) ⟨Nat.le_of_ble_eq_true rfl, Nat.le_of_ble_eq_true rfl⟩ ⟨Nat.le_of_ble_eq_true rfl, Nat.le_of_ble_eq_true rfl⟩ dX5_stateOf_88 (fun i29 h29 q29 => ?_)
        obtain ⟨e29, rfl⟩ := q29
        by_cases c29 : kept s b q 0
        · rw [zb_t c29] at e29; subst e29
          have hk0 : kept s b q 0 := c29
          refine v_if_eq (tgt := 96) C dX5_stateOf_91 (by decide) (fun c30 => absurd c30 (by decide)) (fun c30 => ?_)
          refine v_iconst (v := 1) C dX5_stateOf_94 (by decide) ?_
          exact v_iret C hQ hr rfl (Nat.le_of_ble_eq_true rfl) (Nat.le_of_ble_eq_true rfl) dX5_stateOf_95 ⟨(congrArg nI ((if_neg (fun z => z.elim hdz c26)).trans (if_pos hk0))).symm, rfl⟩
        · rw [zb_f c29] at e29; subst e29
          have hk0 : ¬ kept s b q 0 := c29
          refine v_if_eq (tgt := 96) C dX5_stateOf_91 (by decide) (fun c31 => ?_) (fun c31 => absurd c31 (by decide))
          refine v_iload C 0 rfl dX5_stateOf_96 ?_
          refine v_if_le (tgt := 117) C dX5_stateOf_98 (by decide) (fun c32 => ?_) (fun c32 => ?_)
          · have hk2 : ¬ kept s b q (rC s b q).toInt64 := by
                have z : rC s b q = 0 := Decidable.not_not.mp (fun y => (pos32 hc0).mpr y (by rw [← hx6]; exact c32))
                rw [z]; exact hk0
            refine v_aload_n C 2 rfl dX5_stateOf_117 rfl ?_
            refine v_get (v := .ref (ad 24)) C F_X5_69 hm.1 rfl dX5_stateOf_118 ?_
            refine v_bipush (v := 20) C dX5_stateOf_121 (by decide) ?_
            refine v_iload_n C 3 rfl dX5_stateOf_123 rfl ?_
            refine v_imul C dX5_stateOf_124 (v_eqi (nI_kml b 20 (by decide)) ?_)
            refine v_iload_n C 4 rfl dX5_stateOf_125 rfl ?_
            refine v_iadd C dX5_stateOf_126 (v_eqi (nI_add (20 * b) q) ?_)
            refine v_zald C (hm.2.2.1 24 rfl) (vpin (show ((20 * b) + q) < 120 by omega) (by decide)) dX5_stateOf_127 (v_eqi (y := (ia 24) ((20 * b) + q)) (congrArg (ia 24) (nI_clamp (show ((20 * b) + q) < 2 ^ 31 by omega))) ?_)
            refine v_if_eq (tgt := 135) C dX5_stateOf_128 (by decide) (fun c35 => ?_) (fun c35 => ?_)
            · refine v_iconst (v := 4) C dX5_stateOf_135 (by decide) ?_
              have hv7 : rV s b q = false := by
                  cases hz : rV s b q
                  · rfl
                  · exact absurd (c35) (show ¬ (ia 24 (20 * b + q) = 0) by rw [hx7, hz]; decide)
              exact v_iret C hQ hr rfl (Nat.le_of_ble_eq_true rfl) (Nat.le_of_ble_eq_true rfl) dX5_stateOf_136 ⟨(congrArg nI ((if_neg (fun z => z.elim hdz c26)).trans ((if_neg hk0).trans ((if_neg hk2).trans (if_neg (by rw [hv7]; decide)))))).symm, rfl⟩
            · refine v_iconst (v := 3) C dX5_stateOf_131 (by decide) ?_
              refine v_goto (tgt := 136) C dX5_stateOf_132 (by decide) ?_
              have hv7 : rV s b q = true := by
                  cases hz : rV s b q
                  · exact absurd (show ia 24 (20 * b + q) = 0 by rw [hx7, hz]; rfl) c35
                  · rfl
              exact v_iret C hQ hr rfl (Nat.le_of_ble_eq_true rfl) (Nat.le_of_ble_eq_true rfl) dX5_stateOf_136 ⟨(congrArg nI ((if_neg (fun z => z.elim hdz c26)).trans ((if_neg hk0).trans ((if_neg hk2).trans (if_pos hv7))))).symm, rfl⟩
          · refine v_aload_n C 2 rfl dX5_stateOf_101 rfl ?_
            refine v_iload_n C 3 rfl dX5_stateOf_102 rfl ?_
            refine v_iload_n C 4 rfl dX5_stateOf_103 rfl ?_
            refine v_iload C 0 rfl dX5_stateOf_104 ?_
            refine v_i2l (v := (((ia 23) ((20 * b) + q)) : Int32).toInt64) C dX5_stateOf_106 rfl ?_
            refine v_callV (rest := []) C (c_X5_isKept l hl G m ad ns na ia la h0 s b q (Int32.toInt64 ((ia 23) ((20 * b) + q))) h hm  hs hw hb hq hut) K_X5_191 hm.1 rfl rfl (Nat.le_of_ble_eq_true rfl) ⟨Nat.le_of_ble_eq_true rfl, Nat.le_of_ble_eq_true rfl⟩ ⟨Nat.le_of_ble_eq_true rfl, Nat.le_of_ble_eq_true rfl⟩ dX5_stateOf_107 (fun i36 h36 q36 => ?_)
            obtain ⟨e36, rfl⟩ := q36
            by_cases c36 : kept s b q (Int32.toInt64 ((ia 23) ((20 * b) + q)))
            · rw [zb_t c36] at e36; subst e36
              have hk2 : kept s b q (rC s b q).toInt64 := by rw [← hx6]; exact c36
              refine v_if_eq (tgt := 117) C dX5_stateOf_110 (by decide) (fun c37 => absurd c37 (by decide)) (fun c37 => ?_)
              refine v_iconst (v := 2) C dX5_stateOf_113 (by decide) ?_
              refine v_goto (tgt := 136) C dX5_stateOf_114 (by decide) ?_
              exact v_iret C hQ hr rfl (Nat.le_of_ble_eq_true rfl) (Nat.le_of_ble_eq_true rfl) dX5_stateOf_136 ⟨(congrArg nI ((if_neg (fun z => z.elim hdz c26)).trans ((if_neg hk0).trans (if_pos hk2)))).symm, rfl⟩
            · rw [zb_f c36] at e36; subst e36
              have hk2 : ¬ kept s b q (rC s b q).toInt64 := by rw [← hx6]; exact c36
              refine v_if_eq (tgt := 117) C dX5_stateOf_110 (by decide) (fun c38 => ?_) (fun c38 => absurd c38 (by decide))
              refine v_aload_n C 2 rfl dX5_stateOf_117 rfl ?_
              refine v_get (v := .ref (ad 24)) C F_X5_69 hm.1 rfl dX5_stateOf_118 ?_
              refine v_bipush (v := 20) C dX5_stateOf_121 (by decide) ?_
              refine v_iload_n C 3 rfl dX5_stateOf_123 rfl ?_
              refine v_imul C dX5_stateOf_124 (v_eqi (nI_kml b 20 (by decide)) ?_)
              refine v_iload_n C 4 rfl dX5_stateOf_125 rfl ?_
              refine v_iadd C dX5_stateOf_126 (v_eqi (nI_add (20 * b) q) ?_)
              refine v_zald C (hm.2.2.1 24 rfl) (vpin (show ((20 * b) + q) < 120 by omega) (by decide)) dX5_stateOf_127 (v_eqi (y := (ia 24) ((20 * b) + q)) (congrArg (ia 24) (nI_clamp (show ((20 * b) + q) < 2 ^ 31 by omega))) ?_)
              refine v_if_eq (tgt := 135) C dX5_stateOf_128 (by decide) (fun c41 => ?_) (fun c41 => ?_)
              · refine v_iconst (v := 4) C dX5_stateOf_135 (by decide) ?_
                have hv7 : rV s b q = false := by
                    cases hz : rV s b q
                    · rfl
                    · exact absurd (c41) (show ¬ (ia 24 (20 * b + q) = 0) by rw [hx7, hz]; decide)
                exact v_iret C hQ hr rfl (Nat.le_of_ble_eq_true rfl) (Nat.le_of_ble_eq_true rfl) dX5_stateOf_136 ⟨(congrArg nI ((if_neg (fun z => z.elim hdz c26)).trans ((if_neg hk0).trans ((if_neg hk2).trans (if_neg (by rw [hv7]; decide)))))).symm, rfl⟩
              · refine v_iconst (v := 3) C dX5_stateOf_131 (by decide) ?_
                refine v_goto (tgt := 136) C dX5_stateOf_132 (by decide) ?_
                have hv7 : rV s b q = true := by
                    cases hz : rV s b q
                    · exact absurd (show ia 24 (20 * b + q) = 0 by rw [hx7, hz]; rfl) c41
                    · rfl
                exact v_iret C hQ hr rfl (Nat.le_of_ble_eq_true rfl) (Nat.le_of_ble_eq_true rfl) dX5_stateOf_136 ⟨(congrArg nI ((if_neg (fun z => z.elim hdz c26)).trans ((if_neg hk0).trans ((if_neg hk2).trans (if_pos hv7))))).symm, rfl⟩
      · refine v_iconst (v := 0) C dX5_stateOf_69 (by decide) ?_
        exact v_iret C hQ hr rfl (Nat.le_of_ble_eq_true rfl) (Nat.le_of_ble_eq_true rfl) dX5_stateOf_70 ⟨(congrArg nI (if_pos (Or.inr c26))).symm, rfl⟩
    · have hcl : cl (rW s b) = j := by rw [← hx3, hwj]; exact cl_nI (by omega)
      have hax : ia 1 (20 * j + q) = oA s j q := hs.1 j q hj hq
      have hdz : dozes s b q := ⟨fun z => hne (hx3.trans z), by rw [hcl, ← hax, ← hx4]; exact Int32.not_le.mp c23⟩
      refine v_iconst (v := 1) C dX5_stateOf_49 (by decide) ?_
      refine v_goto (tgt := 54) C dX5_stateOf_50 (by decide) ?_
      refine v_istore_n C [(3, .int 1), (0, .ref m), (1, .int (nI b)), (2, .int (nI q))] rfl (by decide) dX5_stateOf_54 rfl ?_
      refine v_iload_n C 0 rfl dX5_stateOf_55 rfl ?_
      refine v_if_ne (tgt := 69) C dX5_stateOf_56 (by decide) (fun c42 => ?_) (fun c42 => absurd c42 (by decide))
      refine v_iconst (v := 0) C dX5_stateOf_69 (by decide) ?_
      exact v_iret C hQ hr rfl (Nat.le_of_ble_eq_true rfl) (Nat.le_of_ble_eq_true rfl) dX5_stateOf_70 ⟨(congrArg nI (if_pos (Or.inl hdz))).symm, rfl⟩

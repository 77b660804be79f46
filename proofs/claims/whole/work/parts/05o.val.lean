def told (s : ZS) (f : Nat → Int64) : Prop := ∀ t z, t < oN s → z < 20 → f (20 * t + z) = oV s t z
set_option maxHeartbeats 4000000 in
set_option maxRecDepth 100000 in
theorem c_X5_value (l : Launch) (hl : l.stackTraces = false) (G : zG) (m : Nat) (ad : Nat → Nat) (ns : Nat → Nat) (na : Nat → Nat → Nat) (ia : Nat → Nat → Int32) (la : Nat → Nat → Int64) (h0 : zH) (s : ZS) (t q : Int32) (h : zH) (hm : MR G h0 h m ad ns na ia la) (hs : MS s ns na ia la) (hw : WFs s)  : zMet eL l yX5_value cX5_value 3 (some .long) 15 0 0 G [.ref m, .int t, .int q] h (fun res h2 => ((kIsTQ s t q) = 0 ∧ MO G h0 h2 m ad s 0 ∧ res = oV s (cl t) (cl q)) ∨ ((kIsTQ s t q) ≠ 0 ∧ MO G h0 h2 m ad s (kIsTQ s t q))) := by
  refine con_of hl RX5 rfl (by decide +kernel) [(0, .ref m), (1, .int t), (2, .int q)] rfl (Nat.le_of_ble_eq_true rfl) ?_
  intro zp ze zs zm zargs zbelow zmeth zc C hr hin Q hQ
  have e2 : (oS s).length = ns 2 := hs.2.1.1.symm
  have e7 : oN s = ns 7 := hs.2.2.1.1.symm
  have e17 : rN s = ns 17 := hs.2.2.2.1.1.symm
  have e25 : bN s = ns 25 := hs.2.2.2.2.1.symm
  have hw2 : ns 2 ≤ 8 := by rw [← e2]; exact hw.1
  have hw7 : ns 7 ≤ 10 := by rw [← e7]; exact hw.2.2.1.1
  have hw17 : ns 17 ≤ 6 := by rw [← e17]; exact hw.2.2.2.2.1.1
  have hw25 : ns 25 ≤ 6 := by rw [← e25]; exact hw.2.2.2.2.2.1
  refine v_aload_n C 0 rfl dX5_value_0 rfl ?_
  refine v_aload_n C 0 rfl dX5_value_1 rfl ?_
  refine v_iload_n C 1 rfl dX5_value_2 rfl ?_
  refine v_callV (rest := [.ref m]) C (c_X5_isTerm l hl G m ad ns na ia la h0 t h hm (by omega)) K_X5_116 hm.1 rfl rfl (Nat.le_of_ble_eq_true rfl) ⟨Nat.le_of_ble_eq_true rfl, Nat.le_of_ble_eq_true rfl⟩ ⟨Nat.le_of_ble_eq_true rfl, Nat.le_of_ble_eq_true rfl⟩ dX5_value_3 (fun i1 h1 q1 => ?_)
  obtain ⟨e1, rfl⟩ := q1
  by_cases c1 : inN t (ns 7)
  · rw [zb_t c1] at e1; subst e1
    obtain ⟨j2, hj2, en2⟩ := inN.nat c1 (by omega)
    subst en2
    have eCt : cl (nI j2) = j2 := cl_nI (by omega)
    refine v_if_eq (tgt := 20) C dX5_value_6 (by decide) (fun c3 => absurd c3 (by decide)) (fun c3 => ?_)
    refine v_iload_n C 2 rfl dX5_value_9 rfl ?_
    refine v_callS (rest := [.ref m]) C (c_X5_isQuarter l hl G  q h ) S_X5_100 rfl rfl (Nat.le_of_ble_eq_true rfl) ⟨Nat.le_of_ble_eq_true rfl, Nat.le_of_ble_eq_true rfl⟩ ⟨Nat.le_of_ble_eq_true rfl, Nat.le_of_ble_eq_true rfl⟩ dX5_value_10 (fun i4 h4 q4 => ?_)
    obtain ⟨e4, rfl⟩ := q4
    by_cases c4 : inN q 20
    · rw [zb_t c4] at e4; subst e4
      obtain ⟨j5, hj5, en5⟩ := inN.nat c4 (by omega)
      subst en5
      have eCq : cl (nI j5) = j5 := cl_nI (by omega)
      refine v_if_eq (tgt := 20) C dX5_value_13 (by decide) (fun c6 => absurd c6 (by decide)) (fun c6 => ?_)
      refine v_iconst (v := 0) C dX5_value_16 (by decide) ?_
      refine v_goto (tgt := 21) C dX5_value_17 (by decide) ?_
      refine v_put C (mC ad (upN ns 0 0)) P_X5_85 hm.1 rfl rfl rfl (Nat.le_of_ble_eq_true rfl) dX5_value_21 (v_nw (fun h7 eh7 => ?_))
      have hm7 := hm.putS 0 0 rfl eh7
      refine v_aload_n C 0 rfl dX5_value_24 rfl ?_
      refine v_get (v := .int (nI 0)) C F_X5_85 hm7.1 rfl dX5_value_25 ?_
      refine v_if_le (tgt := 33) C dX5_value_28 (by decide) (fun c8 => ?_) (fun c8 => absurd c8 (by decide))
      refine v_aload_n C 0 rfl dX5_value_33 rfl ?_
      refine v_callV (rest := []) C (c_X5_tells l hl G m ad (upN ns 0 0) na ia la h0 s h7 hm7 (hs.thr _) hw) K_X5_151 hm7.1 rfl rfl (Nat.le_of_ble_eq_true rfl) ⟨Nat.le_of_ble_eq_true rfl, Nat.le_of_ble_eq_true rfl⟩ ⟨Nat.le_of_ble_eq_true rfl, Nat.le_of_ble_eq_true rfl⟩ dX5_value_34 (fun _ h9 q9 => ?_)
      obtain ⟨w, u, hm9, hut⟩ := q9
      refine v_aload_n C 0 rfl dX5_value_37 rfl ?_
      refine v_get (v := .ref (ad 12)) C F_X5_37 hm9.1 rfl dX5_value_38 ?_
      refine v_bipush (v := 20) C dX5_value_41 (by decide) ?_
      refine v_iload_n C 1 rfl dX5_value_43 rfl ?_
      refine v_imul C dX5_value_44 (v_eqi (nI_kml j2 20 (by decide)) ?_)
      refine v_iload_n C 2 rfl dX5_value_45 rfl ?_
      refine v_iadd C dX5_value_46 (v_eqi (nI_add (20 * j2) j5) ?_)
      refine v_lald C (hm9.2.2.2.1 12 rfl) (vpin (show ((20 * j2) + j5) < 200 by omega) (by decide)) dX5_value_47 (v_eql (y := u ((20 * j2) + j5)) (congrArg u (nI_clamp (show ((20 * j2) + j5) < 2 ^ 31 by omega))) ?_)
      have ek : (kIsTQ s (nI j2) (nI j5)) = 0 := by simp [kIsTQ, inN, wth, c1, c4, e7]
      exact v_lret C hQ hr (Nat.le_of_ble_eq_true rfl) (Nat.le_of_ble_eq_true rfl) dX5_value_48 (Or.inl ⟨ek, ⟨_, _, _, _, hm9, (hs.free rfl rfl rfl rfl (fun _ _ _ => rfl) rfl), rfl⟩, (by rw [eCt, eCq]; exact hut j2 j5 (show j2 < oN s by rw [e7]; omega) (by omega))⟩)
    · rw [zb_f c4] at e4; subst e4
      refine v_if_eq (tgt := 20) C dX5_value_13 (by decide) (fun c12 => ?_) (fun c12 => absurd c12 (by decide))
      refine v_iconst (v := 1) C dX5_value_20 (by decide) ?_
      refine v_put C (mC ad (upN ns 0 1)) P_X5_85 hm.1 rfl rfl rfl (Nat.le_of_ble_eq_true rfl) dX5_value_21 (v_nw (fun h13 eh13 => ?_))
      have hm13 := hm.putS 0 1 rfl eh13
      refine v_aload_n C 0 rfl dX5_value_24 rfl ?_
      refine v_get (v := .int (nI 1)) C F_X5_85 hm13.1 rfl dX5_value_25 ?_
      refine v_if_le (tgt := 33) C dX5_value_28 (by decide) (fun c14 => absurd c14 (by decide)) (fun c14 => ?_)
      refine v_lconst (v := 0) C dX5_value_31 (by decide) ?_
      have ek : (kIsTQ s (nI j2) q) = 1 := by simp [kIsTQ, inN, wth, c1, c4, e7]
      exact v_lret C hQ hr (Nat.le_of_ble_eq_true rfl) (Nat.le_of_ble_eq_true rfl) dX5_value_32 (Or.inr ⟨(by rw [ek]; decide), (by rw [ek]; exact ⟨_, _, _, _, hm13, hs.thr _, rfl⟩)⟩)
  · rw [zb_f c1] at e1; subst e1
    refine v_if_eq (tgt := 20) C dX5_value_6 (by decide) (fun c15 => ?_) (fun c15 => absurd c15 (by decide))
    refine v_iconst (v := 1) C dX5_value_20 (by decide) ?_
    refine v_put C (mC ad (upN ns 0 1)) P_X5_85 hm.1 rfl rfl rfl (Nat.le_of_ble_eq_true rfl) dX5_value_21 (v_nw (fun h16 eh16 => ?_))
    have hm16 := hm.putS 0 1 rfl eh16
    refine v_aload_n C 0 rfl dX5_value_24 rfl ?_
    refine v_get (v := .int (nI 1)) C F_X5_85 hm16.1 rfl dX5_value_25 ?_
    refine v_if_le (tgt := 33) C dX5_value_28 (by decide) (fun c17 => absurd c17 (by decide)) (fun c17 => ?_)
    refine v_lconst (v := 0) C dX5_value_31 (by decide) ?_
    have ek : (kIsTQ s t q) = 1 := by simp [kIsTQ, inN, wth, c1, e7]
    exact v_lret C hQ hr (Nat.le_of_ble_eq_true rfl) (Nat.le_of_ble_eq_true rfl) dX5_value_32 (Or.inr ⟨(by rw [ek]; decide), (by rw [ek]; exact ⟨_, _, _, _, hm16, hs.thr _, rfl⟩)⟩)
set_option maxHeartbeats 4000000 in
set_option maxRecDepth 100000 in
theorem c_X5_isKept (l : Launch) (hl : l.stackTraces = false) (G : zG) (m : Nat) (ad : Nat → Nat) (ns : Nat → Nat) (na : Nat → Nat → Nat) (ia : Nat → Nat → Int32) (la : Nat → Nat → Int64) (h0 : zH) (s : ZS) (b q : Nat) (x : Int64) (h : zH) (hm : MR G h0 h m ad ns na ia la) (hs : MS s ns na ia la) (hw : WFs s) (hb : b < rN s) (hq : q < 20) (hut : told s (la 12)) : zMet eI l yX5_isKept cX5_isKept 9 (some .boolean) 13 0 0 G [.ref m, .int (nI b), .int (nI q), .long x] h (fun r h2 => r = zb (kept s b q x) ∧ h = h2) := by
  refine con_of hl RX5 rfl (by decide +kernel) [(0, .ref m), (1, .int (nI b)), (2, .int (nI q)), (3, .long x)] rfl (Nat.le_of_ble_eq_true rfl) ?_
  intro zp ze zs zm zargs zbelow zmeth zc C hr hin Q hQ
  have e17 : rN s = ns 17 := hs.2.2.2.1.1.symm
  have hr6 : rN s ≤ 6 := hw.2.2.2.2.1.1
  have hn10 : oN s ≤ 10 := hw.2.2.1.1
  obtain ⟨hx1, hx2, -⟩ := hs.2.2.2.1.2 b (by omega)
  obtain ⟨hy1, hy2, -⟩ := hw.2.2.2.2.1.2.1 b hb
  have hx1 : na 18 b = rT s b := hx1
  have hx2 : na 19 b = rB s b := hx2
  have hvt : la 12 (20 * na 18 b + q) = oV s (rT s b) q := by rw [hx1]; exact hut _ _ hy1 hq
  have hvb : la 12 (20 * na 19 b + q) = oV s (rB s b) q := by rw [hx2]; exact hut _ _ hy2 hq
  refine v_aload_n C 0 rfl dX5_isKept_0 rfl ?_
  refine v_get (v := .ref (ad 12)) C F_X5_37 hm.1 rfl dX5_isKept_1 ?_
  refine v_bipush (v := 20) C dX5_isKept_4 (by decide) ?_
  refine v_aload_n C 0 rfl dX5_isKept_6 rfl ?_
  refine v_get (v := .ref (ad 18)) C F_X5_51 hm.1 rfl dX5_isKept_7 ?_
  refine v_iload_n C 1 rfl dX5_isKept_10 rfl ?_
  refine v_iald C (hm.2.1 18 rfl) (vpin (show b < 6 by omega) (by decide)) dX5_isKept_11 (v_eqi (y := nI ((na 18) b)) (congrArg (fun j => nI ((na 18) j)) (nI_clamp (show b < 2 ^ 31 by omega))) ?_)
  refine v_imul C dX5_isKept_12 (v_eqi (nI_kml ((na 18) b) 20 (by decide)) ?_)
  refine v_iload_n C 2 rfl dX5_isKept_13 rfl ?_
  refine v_iadd C dX5_isKept_14 (v_eqi (nI_add (20 * ((na 18) b)) q) ?_)
  refine v_lald C (hm.2.2.2.1 12 rfl) (vpin (show ((20 * ((na 18) b)) + q) < 200 by omega) (by decide)) dX5_isKept_15 (v_eql (y := (la 12) ((20 * ((na 18) b)) + q)) (congrArg (la 12) (nI_clamp (show ((20 * ((na 18) b)) + q) < 2 ^ 31 by omega))) ?_)
  refine v_lstore C [(5, .long ((la 12) ((20 * ((na 18) b)) + q))), (0, .ref m), (1, .int (nI b)), (2, .int (nI q)), (3, .long x)] rfl (by decide) dX5_isKept_16 ?_
  refine v_aload_n C 1 rfl dX5_isKept_18 rfl ?_
  refine v_get (v := .ref (ad 12)) C F_X5_37 hm.1 rfl dX5_isKept_19 ?_
  refine v_bipush (v := 20) C dX5_isKept_22 (by decide) ?_
  refine v_aload_n C 1 rfl dX5_isKept_24 rfl ?_
  refine v_get (v := .ref (ad 19)) C F_X5_54 hm.1 rfl dX5_isKept_25 ?_
  refine v_iload_n C 2 rfl dX5_isKept_28 rfl ?_
  refine v_iald C (hm.2.1 19 rfl) (vpin (show b < 6 by omega) (by decide)) dX5_isKept_29 (v_eqi (y := nI ((na 19) b)) (congrArg (fun j => nI ((na 19) j)) (nI_clamp (show b < 2 ^ 31 by omega))) ?_)
  refine v_imul C dX5_isKept_30 (v_eqi (nI_kml ((na 19) b) 20 (by decide)) ?_)
  refine v_iload_n C 3 rfl dX5_isKept_31 rfl ?_
  refine v_iadd C dX5_isKept_32 (v_eqi (nI_add (20 * ((na 19) b)) q) ?_)
  refine v_lald C (hm.2.2.2.1 12 rfl) (vpin (show ((20 * ((na 19) b)) + q) < 200 by omega) (by decide)) dX5_isKept_33 (v_eql (y := (la 12) ((20 * ((na 19) b)) + q)) (congrArg (la 12) (nI_clamp (show ((20 * ((na 19) b)) + q) < 2 ^ 31 by omega))) ?_)
  refine v_lload_n C 4 rfl dX5_isKept_34 rfl ?_
  refine v_ladd C dX5_isKept_35 (v_eql (y := (((la 12) ((20 * ((na 19) b)) + q)) + x)) (rfl) ?_)
  refine v_lstore C [(7, .long (((la 12) ((20 * ((na 19) b)) + q)) + x)), (5, .long ((la 12) ((20 * ((na 18) b)) + q))), (0, .ref m), (1, .int (nI b)), (2, .int (nI q)), (3, .long x)] rfl (by decide) dX5_isKept_36 ?_
  refine v_lload C 0 rfl dX5_isKept_38 ?_
  refine v_lconst (v := 0) C dX5_isKept_40 (by decide) ?_
  refine v_lcmp C dX5_isKept_41 ?_
  refine v_if_le (tgt := 69) C dX5_isKept_42 (by decide) (fun c6 => ?_) (fun c6 => ?_)
  · have c6 := (lgc_le (((la 12) ((20 * ((na 19) b)) + q)) + x) 0).mp c6
    refine v_iconst (v := 0) C dX5_isKept_69 (by decide) ?_
    exact v_iret C hQ hr rfl (Nat.le_of_ble_eq_true rfl) (Nat.le_of_ble_eq_true rfl) dX5_isKept_70 ⟨(zb_f (by unfold kept; rw [← hvt, ← hvb]; exact fun z => Int64.not_le.mpr z.1 c6)).symm, rfl⟩
  · have c6 := (lgc_le_f (((la 12) ((20 * ((na 19) b)) + q)) + x) 0).mp c6
    refine v_ldc2 C KO_X5_186 dX5_isKept_45 ?_
    refine v_lload C 1 rfl dX5_isKept_48 ?_
    refine v_lmul C dX5_isKept_50 (v_eql (y := (100 * ((la 12) ((20 * ((na 18) b)) + q)))) (rfl) ?_)
    refine v_aload_n C 2 rfl dX5_isKept_51 rfl ?_
    refine v_iload_n C 3 rfl dX5_isKept_52 rfl ?_
    refine v_iload_n C 4 rfl dX5_isKept_53 rfl ?_
    refine v_callV (rest := [.long (100 * ((la 12) ((20 * ((na 18) b)) + q)))]) C (c_X5_limitOf l hl G m ad ns na ia la h0 b q (rL s b) h hm (by omega) (by omega) (fun z hz => ((hs.2.2.2.1.2 b (by omega)).2.2.2.2 z hz).1)) K_X5_188 hm.1 rfl rfl (Nat.le_of_ble_eq_true rfl) ⟨Nat.le_of_ble_eq_true rfl, Nat.le_of_ble_eq_true rfl⟩ ⟨Nat.le_of_ble_eq_true rfl, Nat.le_of_ble_eq_true rfl⟩ dX5_isKept_54 (fun i8 h8 q8 => ?_)
    obtain ⟨e8, rfl⟩ := q8; subst e8
    refine v_i2l (v := ((lmA (rL s b) q) : Int32).toInt64) C dX5_isKept_57 rfl ?_
    refine v_lload C 0 rfl dX5_isKept_58 ?_
    refine v_lmul C dX5_isKept_60 (v_eql (y := ((Int32.toInt64 (lmA (rL s b) q)) * (((la 12) ((20 * ((na 19) b)) + q)) + x))) (rfl) ?_)
    refine v_lcmp C dX5_isKept_61 ?_
    refine v_if_gt (tgt := 69) C dX5_isKept_62 (by decide) (fun c10 => ?_) (fun c10 => ?_)
    · have c10 := (lgc_gt (100 * ((la 12) ((20 * ((na 18) b)) + q))) ((Int32.toInt64 (lmA (rL s b) q)) * (((la 12) ((20 * ((na 19) b)) + q)) + x))).mp c10
      refine v_iconst (v := 0) C dX5_isKept_69 (by decide) ?_
      exact v_iret C hQ hr rfl (Nat.le_of_ble_eq_true rfl) (Nat.le_of_ble_eq_true rfl) dX5_isKept_70 ⟨(zb_f (by unfold kept; rw [← hvt, ← hvb]; exact fun z => Int64.not_lt.mpr z.2 c10)).symm, rfl⟩
    · have c10 := (lgc_gt_f (100 * ((la 12) ((20 * ((na 18) b)) + q))) ((Int32.toInt64 (lmA (rL s b) q)) * (((la 12) ((20 * ((na 19) b)) + q)) + x))).mp c10
      refine v_iconst (v := 1) C dX5_isKept_65 (by decide) ?_
      refine v_goto (tgt := 70) C dX5_isKept_66 (by decide) ?_
      exact v_iret C hQ hr rfl (Nat.le_of_ble_eq_true rfl) (Nat.le_of_ble_eq_true rfl) dX5_isKept_70 ⟨(zb_t (by unfold kept; rw [← hvt, ← hvb]; exact ⟨Int64.not_le.mp c6, Int64.not_lt.mp c10⟩)).symm, rfl⟩

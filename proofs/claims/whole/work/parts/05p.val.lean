theorem vState_le (s : ZS) (r q : Nat) : vState s r q ≤ 4 := by
  unfold vState; repeat' split
  all_goals omega
set_option maxHeartbeats 4000000 in
set_option maxRecDepth 100000 in
theorem c_X5_state (l : Launch) (hl : l.stackTraces = false) (G : zG) (m : Nat) (ad : Nat → Nat) (ns : Nat → Nat) (na : Nat → Nat → Nat) (ia : Nat → Nat → Int32) (la : Nat → Nat → Int64) (h0 : zH) (s : ZS) (a q : Int32) (h : zH) (hm : MR G h0 h m ad ns na ia la) (hs : MS s ns na ia la) (hw : WFs s)  : zMet eI l yX5_state cX5_state 3 (some .int) 15 0 0 G [.ref m, .int a, .int q] h (fun res h2 => ((kIsRQ s a q) = 0 ∧ MO G h0 h2 m ad s 0 ∧ res = nI (vState s (cl a) (cl q))) ∨ ((kIsRQ s a q) ≠ 0 ∧ MO G h0 h2 m ad s (kIsRQ s a q))) := by
  refine con_of hl RX5 rfl (by decide +kernel) [(0, .ref m), (1, .int a), (2, .int q)] rfl (Nat.le_of_ble_eq_true rfl) ?_
  intro zp ze zs zm zargs zbelow zmeth zc C hr hin Q hQ
  have e2 : (oS s).length = ns 2 := hs.2.1.1.symm
  have e7 : oN s = ns 7 := hs.2.2.1.1.symm
  have e17 : rN s = ns 17 := hs.2.2.2.1.1.symm
  have e25 : bN s = ns 25 := hs.2.2.2.2.1.symm
  have hw2 : ns 2 ≤ 8 := by rw [← e2]; exact hw.1
  have hw7 : ns 7 ≤ 10 := by rw [← e7]; exact hw.2.2.1.1
  have hw17 : ns 17 ≤ 6 := by rw [← e17]; exact hw.2.2.2.2.1.1
  have hw25 : ns 25 ≤ 6 := by rw [← e25]; exact hw.2.2.2.2.2.1
  refine v_aload_n C 0 rfl dX5_state_0 rfl ?_
  refine v_aload_n C 0 rfl dX5_state_1 rfl ?_
  refine v_iload_n C 1 rfl dX5_state_2 rfl ?_
  refine v_callV (rest := [.ref m]) C (c_X5_isTest l hl G m ad ns na ia la h0 a h hm (by omega)) K_X5_180 hm.1 rfl rfl (Nat.le_of_ble_eq_true rfl) ⟨Nat.le_of_ble_eq_true rfl, Nat.le_of_ble_eq_true rfl⟩ ⟨Nat.le_of_ble_eq_true rfl, Nat.le_of_ble_eq_true rfl⟩ dX5_state_3 (fun i1 h1 q1 => ?_)
  obtain ⟨e1, rfl⟩ := q1
  by_cases c1 : inN a (ns 17)
  · rw [zb_t c1] at e1; subst e1
    obtain ⟨j2, hj2, en2⟩ := inN.nat c1 (by omega)
    subst en2
    have eCa : cl (nI j2) = j2 := cl_nI (by omega)
    refine v_if_eq (tgt := 20) C dX5_state_6 (by decide) (fun c3 => absurd c3 (by decide)) (fun c3 => ?_)
    refine v_iload_n C 2 rfl dX5_state_9 rfl ?_
    refine v_callS (rest := [.ref m]) C (c_X5_isQuarter l hl G  q h ) S_X5_100 rfl rfl (Nat.le_of_ble_eq_true rfl) ⟨Nat.le_of_ble_eq_true rfl, Nat.le_of_ble_eq_true rfl⟩ ⟨Nat.le_of_ble_eq_true rfl, Nat.le_of_ble_eq_true rfl⟩ dX5_state_10 (fun i4 h4 q4 => ?_)
    obtain ⟨e4, rfl⟩ := q4
    by_cases c4 : inN q 20
    · rw [zb_t c4] at e4; subst e4
      obtain ⟨j5, hj5, en5⟩ := inN.nat c4 (by omega)
      subst en5
      have eCq : cl (nI j5) = j5 := cl_nI (by omega)
      refine v_if_eq (tgt := 20) C dX5_state_13 (by decide) (fun c6 => absurd c6 (by decide)) (fun c6 => ?_)
      refine v_iconst (v := 0) C dX5_state_16 (by decide) ?_
      refine v_goto (tgt := 21) C dX5_state_17 (by decide) ?_
      refine v_put C (mC ad (upN ns 0 0)) P_X5_85 hm.1 rfl rfl rfl (Nat.le_of_ble_eq_true rfl) dX5_state_21 (v_nw (fun h7 eh7 => ?_))
      have hm7 := hm.putS 0 0 rfl eh7
      refine v_aload_n C 0 rfl dX5_state_24 rfl ?_
      refine v_get (v := .int (nI 0)) C F_X5_85 hm7.1 rfl dX5_state_25 ?_
      refine v_if_le (tgt := 33) C dX5_state_28 (by decide) (fun c8 => ?_) (fun c8 => absurd c8 (by decide))
      refine v_aload_n C 0 rfl dX5_state_33 rfl ?_
      refine v_callV (rest := []) C (c_X5_tells l hl G m ad (upN ns 0 0) na ia la h0 s h7 hm7 (hs.thr _) hw) K_X5_151 hm7.1 rfl rfl (Nat.le_of_ble_eq_true rfl) ⟨Nat.le_of_ble_eq_true rfl, Nat.le_of_ble_eq_true rfl⟩ ⟨Nat.le_of_ble_eq_true rfl, Nat.le_of_ble_eq_true rfl⟩ dX5_state_34 (fun _ h9 q9 => ?_)
      obtain ⟨w, u, hm9, hut⟩ := q9
      refine v_aload_n C 0 rfl dX5_state_37 rfl ?_
      refine v_iload_n C 1 rfl dX5_state_38 rfl ?_
      refine v_iload_n C 2 rfl dX5_state_39 rfl ?_
      refine v_callV (rest := []) C (c_X5_stateOf l hl G m ad (upN ns 0 0) na ia (up2 (up2 la 13 w) 12 u) h0 s j2 j5 h9 hm9 (hs.free rfl rfl rfl rfl (fun _ _ _ => rfl) rfl) hw (show j2 < rN s by rw [e17]; omega) (by omega) hut) K_X5_195 hm9.1 rfl rfl (Nat.le_of_ble_eq_true rfl) ⟨Nat.le_of_ble_eq_true rfl, Nat.le_of_ble_eq_true rfl⟩ ⟨Nat.le_of_ble_eq_true rfl, Nat.le_of_ble_eq_true rfl⟩ dX5_state_40 (fun i10 h10 q10 => ?_)
      obtain ⟨e10, rfl⟩ := q10; subst e10
      have hv4 := vState_le s j2 j5
      have ek : (kIsRQ s (nI j2) (nI j5)) = 0 := by simp [kIsRQ, inN, wth, c1, c4, e17]
      exact v_iret C hQ hr rfl (Nat.le_of_ble_eq_true rfl) (Nat.le_of_ble_eq_true rfl) dX5_state_43 (Or.inl ⟨ek, ⟨_, _, _, _, hm9, (hs.free rfl rfl rfl rfl (fun _ _ _ => rfl) rfl), rfl⟩, (by rw [eCa, eCq])⟩)
    · rw [zb_f c4] at e4; subst e4
      refine v_if_eq (tgt := 20) C dX5_state_13 (by decide) (fun c11 => ?_) (fun c11 => absurd c11 (by decide))
      refine v_iconst (v := 1) C dX5_state_20 (by decide) ?_
      refine v_put C (mC ad (upN ns 0 1)) P_X5_85 hm.1 rfl rfl rfl (Nat.le_of_ble_eq_true rfl) dX5_state_21 (v_nw (fun h12 eh12 => ?_))
      have hm12 := hm.putS 0 1 rfl eh12
      refine v_aload_n C 0 rfl dX5_state_24 rfl ?_
      refine v_get (v := .int (nI 1)) C F_X5_85 hm12.1 rfl dX5_state_25 ?_
      refine v_if_le (tgt := 33) C dX5_state_28 (by decide) (fun c13 => absurd c13 (by decide)) (fun c13 => ?_)
      refine v_iconst (v := 0) C dX5_state_31 (by decide) ?_
      have ek : (kIsRQ s (nI j2) q) = 1 := by simp [kIsRQ, inN, wth, c1, c4, e17]
      exact v_iret C hQ hr rfl (Nat.le_of_ble_eq_true rfl) (Nat.le_of_ble_eq_true rfl) dX5_state_32 (Or.inr ⟨(by rw [ek]; decide), (by rw [ek]; exact ⟨_, _, _, _, hm12, hs.thr _, rfl⟩)⟩)
  · rw [zb_f c1] at e1; subst e1
    refine v_if_eq (tgt := 20) C dX5_state_6 (by decide) (fun c14 => ?_) (fun c14 => absurd c14 (by decide))
    refine v_iconst (v := 1) C dX5_state_20 (by decide) ?_
    refine v_put C (mC ad (upN ns 0 1)) P_X5_85 hm.1 rfl rfl rfl (Nat.le_of_ble_eq_true rfl) dX5_state_21 (v_nw (fun h15 eh15 => ?_))
    have hm15 := hm.putS 0 1 rfl eh15
    refine v_aload_n C 0 rfl dX5_state_24 rfl ?_
    refine v_get (v := .int (nI 1)) C F_X5_85 hm15.1 rfl dX5_state_25 ?_
    refine v_if_le (tgt := 33) C dX5_state_28 (by decide) (fun c16 => absurd c16 (by decide)) (fun c16 => ?_)
    refine v_iconst (v := 0) C dX5_state_31 (by decide) ?_
    have ek : (kIsRQ s a q) = 1 := by simp [kIsRQ, inN, wth, c1, e17]
    exact v_iret C hQ hr rfl (Nat.le_of_ble_eq_true rfl) (Nat.le_of_ble_eq_true rfl) dX5_state_32 (Or.inr ⟨(by rw [ek]; decide), (by rw [ek]; exact ⟨_, _, _, _, hm15, hs.thr _, rfl⟩)⟩)
set_option maxHeartbeats 4000000 in
set_option maxRecDepth 100000 in
theorem c_X5_room (l : Launch) (hl : l.stackTraces = false) (G : zG) (m : Nat) (ad : Nat → Nat) (ns : Nat → Nat) (na : Nat → Nat → Nat) (ia : Nat → Nat → Int32) (la : Nat → Nat → Int64) (h0 : zH) (s : ZS) (a q : Int32) (h : zH) (hm : MR G h0 h m ad ns na ia la) (hs : MS s ns na ia la) (hw : WFs s)  : zMet eL l yX5_room cX5_room 6 (some .long) 15 0 0 G [.ref m, .int a, .int q] h (fun res h2 => ((kRoom s a q) = 0 ∧ MO G h0 h2 m ad s 0 ∧ res = vRoom s (cl a) (cl q)) ∨ ((kRoom s a q) ≠ 0 ∧ MO G h0 h2 m ad s (kRoom s a q))) := by
  refine con_of hl RX5 rfl (by decide +kernel) [(0, .ref m), (1, .int a), (2, .int q)] rfl (Nat.le_of_ble_eq_true rfl) ?_
  intro zp ze zs zm zargs zbelow zmeth zc C hr hin Q hQ
  have e2 : (oS s).length = ns 2 := hs.2.1.1.symm
  have e7 : oN s = ns 7 := hs.2.2.1.1.symm
  have e17 : rN s = ns 17 := hs.2.2.2.1.1.symm
  have e25 : bN s = ns 25 := hs.2.2.2.2.1.symm
  have hw2 : ns 2 ≤ 8 := by rw [← e2]; exact hw.1
  have hw7 : ns 7 ≤ 10 := by rw [← e7]; exact hw.2.2.1.1
  have hw17 : ns 17 ≤ 6 := by rw [← e17]; exact hw.2.2.2.2.1.1
  have hw25 : ns 25 ≤ 6 := by rw [← e25]; exact hw.2.2.2.2.2.1
  refine v_aload_n C 0 rfl dX5_room_0 rfl ?_
  refine v_aload_n C 0 rfl dX5_room_1 rfl ?_
  refine v_iload_n C 1 rfl dX5_room_2 rfl ?_
  refine v_callV (rest := [.ref m]) C (c_X5_isTest l hl G m ad ns na ia la h0 a h hm (by omega)) K_X5_180 hm.1 rfl rfl (Nat.le_of_ble_eq_true rfl) ⟨Nat.le_of_ble_eq_true rfl, Nat.le_of_ble_eq_true rfl⟩ ⟨Nat.le_of_ble_eq_true rfl, Nat.le_of_ble_eq_true rfl⟩ dX5_room_3 (fun i1 h1 q1 => ?_)
  obtain ⟨e1, rfl⟩ := q1
  by_cases c1 : inN a (ns 17)
  · rw [zb_t c1] at e1; subst e1
    obtain ⟨j2, hj2, en2⟩ := inN.nat c1 (by omega)
    subst en2
    have eCa : cl (nI j2) = j2 := cl_nI (by omega)
    refine v_if_eq (tgt := 20) C dX5_room_6 (by decide) (fun c3 => absurd c3 (by decide)) (fun c3 => ?_)
    refine v_iload_n C 2 rfl dX5_room_9 rfl ?_
    refine v_callS (rest := [.ref m]) C (c_X5_isQuarter l hl G  q h ) S_X5_100 rfl rfl (Nat.le_of_ble_eq_true rfl) ⟨Nat.le_of_ble_eq_true rfl, Nat.le_of_ble_eq_true rfl⟩ ⟨Nat.le_of_ble_eq_true rfl, Nat.le_of_ble_eq_true rfl⟩ dX5_room_10 (fun i4 h4 q4 => ?_)
    obtain ⟨e4, rfl⟩ := q4
    by_cases c4 : inN q 20
    · rw [zb_t c4] at e4; subst e4
      obtain ⟨j5, hj5, en5⟩ := inN.nat c4 (by omega)
      subst en5
      have eCq : cl (nI j5) = j5 := cl_nI (by omega)
      have hb : j2 < rN s := by rw [e17]; omega
      have hr6 : rN s ≤ 6 := hw.2.2.2.2.1.1
      have hn10 : oN s ≤ 10 := hw.2.2.1.1
      obtain ⟨hx1, hx2, -⟩ := hs.2.2.2.1.2 j2 (by omega)
      obtain ⟨hy1, hy2, -⟩ := hw.2.2.2.2.1.2.1 j2 hb
      have hx1 : na 18 j2 = rT s j2 := hx1
      have hx2 : na 19 j2 = rB s j2 := hx2
      have hx6 : ia 23 (20 * j2 + j5) = rC s j2 j5 := ((hs.2.2.2.1.2 j2 (by omega)).2.2.2.2 j5 (by omega)).2.1
      refine v_if_eq (tgt := 20) C dX5_room_13 (by decide) (fun c6 => absurd c6 (by decide)) (fun c6 => ?_)
      refine v_iconst (v := 0) C dX5_room_16 (by decide) ?_
      refine v_goto (tgt := 21) C dX5_room_17 (by decide) ?_
      refine v_put C (mC ad (upN ns 0 0)) P_X5_85 hm.1 rfl rfl rfl (Nat.le_of_ble_eq_true rfl) dX5_room_21 (v_nw (fun h7 eh7 => ?_))
      have hm7 := hm.putS 0 0 rfl eh7
      refine v_aload_n C 0 rfl dX5_room_24 rfl ?_
      refine v_get (v := .int (nI 0)) C F_X5_85 hm7.1 rfl dX5_room_25 ?_
      refine v_if_le (tgt := 33) C dX5_room_28 (by decide) (fun c8 => ?_) (fun c8 => absurd c8 (by decide))
      refine v_aload_n C 0 rfl dX5_room_33 rfl ?_
      refine v_callV (rest := []) C (c_X5_tells l hl G m ad (upN ns 0 0) na ia la h0 s h7 hm7 (hs.thr _) hw) K_X5_151 hm7.1 rfl rfl (Nat.le_of_ble_eq_true rfl) ⟨Nat.le_of_ble_eq_true rfl, Nat.le_of_ble_eq_true rfl⟩ ⟨Nat.le_of_ble_eq_true rfl, Nat.le_of_ble_eq_true rfl⟩ dX5_room_34 (fun _ h9 q9 => ?_)
      obtain ⟨w, u, hm9, hut⟩ := q9
      refine v_aload_n C 0 rfl dX5_room_37 rfl ?_
      refine v_get (v := .ref (ad 12)) C F_X5_37 hm9.1 rfl dX5_room_38 ?_
      refine v_bipush (v := 20) C dX5_room_41 (by decide) ?_
      refine v_aload_n C 0 rfl dX5_room_43 rfl ?_
      refine v_get (v := .ref (ad 19)) C F_X5_54 hm9.1 rfl dX5_room_44 ?_
      refine v_iload_n C 1 rfl dX5_room_47 rfl ?_
      refine v_iald C (hm9.2.1 19 rfl) (vpin (show j2 < 6 by omega) (by decide)) dX5_room_48 (v_eqi (y := nI ((na 19) j2)) (congrArg (fun j => nI ((na 19) j)) (nI_clamp (show j2 < 2 ^ 31 by omega))) ?_)
      refine v_imul C dX5_room_49 (v_eqi (nI_kml ((na 19) j2) 20 (by decide)) ?_)
      refine v_iload_n C 2 rfl dX5_room_50 rfl ?_
      refine v_iadd C dX5_room_51 (v_eqi (nI_add (20 * ((na 19) j2)) j5) ?_)
      refine v_lald C (hm9.2.2.2.1 12 rfl) (vpin (show ((20 * ((na 19) j2)) + j5) < 200 by omega) (by decide)) dX5_room_52 (v_eql (y := u ((20 * ((na 19) j2)) + j5)) (congrArg u (nI_clamp (show ((20 * ((na 19) j2)) + j5) < 2 ^ 31 by omega))) ?_)
      refine v_aload_n C 0 rfl dX5_room_53 rfl ?_
      refine v_get (v := .ref (ad 23)) C F_X5_66 hm9.1 rfl dX5_room_54 ?_
      refine v_bipush (v := 20) C dX5_room_57 (by decide) ?_
      refine v_iload_n C 1 rfl dX5_room_59 rfl ?_
      refine v_imul C dX5_room_60 (v_eqi (nI_kml j2 20 (by decide)) ?_)
      refine v_iload_n C 2 rfl dX5_room_61 rfl ?_
      refine v_iadd C dX5_room_62 (v_eqi (nI_add (20 * j2) j5) ?_)
      refine v_iald C (hm9.2.2.1 23 rfl) (vpin (show ((20 * j2) + j5) < 120 by omega) (by decide)) dX5_room_63 (v_eqi (y := (ia 23) ((20 * j2) + j5)) (congrArg (ia 23) (nI_clamp (show ((20 * j2) + j5) < 2 ^ 31 by omega))) ?_)
      refine v_i2l (v := (((ia 23) ((20 * j2) + j5)) : Int32).toInt64) C dX5_room_64 rfl ?_
      refine v_ladd C dX5_room_65 (v_eql (y := ((u ((20 * ((na 19) j2)) + j5)) + (Int32.toInt64 ((ia 23) ((20 * j2) + j5))))) (rfl) ?_)
      refine v_lstore_n C [(3, .long ((u ((20 * ((na 19) j2)) + j5)) + (Int32.toInt64 ((ia 23) ((20 * j2) + j5))))), (0, .ref m), (1, .int (nI j2)), (2, .int (nI j5))] rfl (by decide) dX5_room_66 rfl ?_
      refine v_aload_n C 1 rfl dX5_room_67 rfl ?_
      refine v_iload_n C 2 rfl dX5_room_68 rfl ?_
      refine v_iload_n C 3 rfl dX5_room_69 rfl ?_
      refine v_callV (rest := []) C (c_X5_limitOf l hl G m ad (upN ns 0 0) na ia (up2 (up2 la 13 w) 12 u) h0 j2 j5 (rL s j2) h9 hm9 (by omega) (by omega) (fun z hz => ((hs.2.2.2.1.2 j2 (by omega)).2.2.2.2 z hz).1)) K_X5_188 hm9.1 rfl rfl (Nat.le_of_ble_eq_true rfl) ⟨Nat.le_of_ble_eq_true rfl, Nat.le_of_ble_eq_true rfl⟩ ⟨Nat.le_of_ble_eq_true rfl, Nat.le_of_ble_eq_true rfl⟩ dX5_room_70 (fun i15 h15 q15 => ?_)
      obtain ⟨e15, rfl⟩ := q15; subst e15
      refine v_istore C [(5, .int (lmA (rL s j2) j5)), (3, .long ((u ((20 * ((na 19) j2)) + j5)) + (Int32.toInt64 ((ia 23) ((20 * j2) + j5))))), (0, .ref m), (1, .int (nI j2)), (2, .int (nI j5))] rfl (by decide) dX5_room_73 ?_
      refine v_aload_n C 2 rfl dX5_room_75 rfl ?_
      refine v_iload C 0 rfl dX5_room_76 ?_
      refine v_iconst (v := (-1)) C dX5_room_78 (by decide) ?_
      refine v_icmp_eq (tgt := 88) C dX5_room_79 (by decide) (fun c16 => ?_) (fun c16 => ?_)
      · have cD : lmA (rL s (cl (nI j2))) (cl (nI j5)) = -1 ∨ rmBot s (cl (nI j2)) (cl (nI j5)) ≤ 0 := Or.inl (by rw [eCa, eCq]; exact c16)
        refine v_iconst (v := 2) C dX5_room_88 (by decide) ?_
        refine v_goto (tgt := 93) C dX5_room_89 (by decide) ?_
        refine v_put C (mC ad (upN (upN ns 0 0) 0 2)) P_X5_85 hm9.1 rfl rfl rfl (Nat.le_of_ble_eq_true rfl) dX5_room_93 (v_nw (fun h17 eh17 => ?_))
        have hm17 := hm9.putS 0 2 rfl eh17
        refine v_aload_n C 2 rfl dX5_room_96 rfl ?_
        refine v_get (v := .int (nI 2)) C F_X5_85 hm17.1 rfl dX5_room_97 ?_
        refine v_if_le (tgt := 107) C dX5_room_100 (by decide) (fun c18 => absurd c18 (by decide)) (fun c18 => ?_)
        refine v_lconst (v := 0) C dX5_room_103 (by decide) ?_
        refine v_goto (tgt := 134) C dX5_room_104 (by decide) ?_
        have ek : (kRoom s (nI j2) (nI j5)) = 2 := (if_pos ⟨(by rw [e17]; exact c1), c4⟩).trans (if_pos cD)
        exact v_lret C hQ hr (Nat.le_of_ble_eq_true rfl) (Nat.le_of_ble_eq_true rfl) dX5_room_134 (Or.inr ⟨(by rw [ek]; decide), (by rw [ek]; exact ⟨_, _, _, _, hm17, hs.thr _, rfl⟩)⟩)
      · have hrm : u (20 * na 19 j2 + j5) + Int32.toInt64 (ia 23 (20 * j2 + j5)) = rmBot s j2 j5 := by unfold rmBot; rw [hx6, hx2, hut _ _ hy2 (by omega)]
        refine v_lload_n C 1 rfl dX5_room_82 rfl ?_
        refine v_lconst (v := 0) C dX5_room_83 (by decide) ?_
        refine v_lcmp C dX5_room_84 ?_
        refine v_if_gt (tgt := 92) C dX5_room_85 (by decide) (fun c19 => ?_) (fun c19 => ?_)
        · have c19 := (lgc_gt ((u ((20 * ((na 19) j2)) + j5)) + (Int32.toInt64 ((ia 23) ((20 * j2) + j5)))) 0).mp c19
          rw [hrm] at c19
          have cD : ¬ (lmA (rL s (cl (nI j2))) (cl (nI j5)) = -1 ∨ rmBot s (cl (nI j2)) (cl (nI j5)) ≤ 0) := by rw [eCa, eCq]; exact fun z => z.elim c16 (Int64.not_le.mpr c19)
          refine v_iconst (v := 0) C dX5_room_92 (by decide) ?_
          refine v_put C (mC ad (upN (upN ns 0 0) 0 0)) P_X5_85 hm9.1 rfl rfl rfl (Nat.le_of_ble_eq_true rfl) dX5_room_93 (v_nw (fun h20 eh20 => ?_))
          have hm20 := hm9.putS 0 0 rfl eh20
          refine v_aload_n C 2 rfl dX5_room_96 rfl ?_
          refine v_get (v := .int (nI 0)) C F_X5_85 hm20.1 rfl dX5_room_97 ?_
          refine v_if_le (tgt := 107) C dX5_room_100 (by decide) (fun c21 => ?_) (fun c21 => absurd c21 (by decide))
          refine v_iload C 0 rfl dX5_room_107 ?_
          refine v_i2l (v := ((lmA (rL s j2) j5) : Int32).toInt64) C dX5_room_109 rfl ?_
          refine v_lload_n C 1 rfl dX5_room_110 rfl ?_
          refine v_lmul C dX5_room_111 (v_eql (y := ((Int32.toInt64 (lmA (rL s j2) j5)) * ((u ((20 * ((na 19) j2)) + j5)) + (Int32.toInt64 ((ia 23) ((20 * j2) + j5)))))) (rfl) ?_)
          refine v_bipush (v := 100) C dX5_room_112 (by decide) ?_
          refine v_callS (rest := []) C (c_X5_down l hl G ((Int32.toInt64 (lmA (rL s j2) j5)) * ((u ((20 * ((na 19) j2)) + j5)) + (Int32.toInt64 ((ia 23) ((20 * j2) + j5))))) h20) S_X5_143 rfl rfl (Nat.le_of_ble_eq_true rfl) ⟨Nat.le_of_ble_eq_true rfl, Nat.le_of_ble_eq_true rfl⟩ ⟨Nat.le_of_ble_eq_true rfl, Nat.le_of_ble_eq_true rfl⟩ dX5_room_114 (fun l23 h23 q23 => ?_)
          obtain ⟨e23, rfl⟩ := q23; subst e23
          refine v_aload_n C 2 rfl dX5_room_117 rfl ?_
          refine v_get (v := .ref (ad 12)) C F_X5_37 hm20.1 rfl dX5_room_118 ?_
          refine v_bipush (v := 20) C dX5_room_121 (by decide) ?_
          refine v_aload_n C 2 rfl dX5_room_123 rfl ?_
          refine v_get (v := .ref (ad 18)) C F_X5_51 hm20.1 rfl dX5_room_124 ?_
          refine v_iload_n C 3 rfl dX5_room_127 rfl ?_
          refine v_iald C (hm20.2.1 18 rfl) (vpin (show j2 < 6 by omega) (by decide)) dX5_room_128 (v_eqi (y := nI ((na 18) j2)) (congrArg (fun j => nI ((na 18) j)) (nI_clamp (show j2 < 2 ^ 31 by omega))) ?_)
          refine v_imul C dX5_room_129 (v_eqi (nI_kml ((na 18) j2) 20 (by decide)) ?_)
          refine v_iload_n C 4 rfl dX5_room_130 rfl ?_
          refine v_iadd C dX5_room_131 (v_eqi (nI_add (20 * ((na 18) j2)) j5) ?_)
          refine v_lald C (hm20.2.2.2.1 12 rfl) (vpin (show ((20 * ((na 18) j2)) + j5) < 200 by omega) (by decide)) dX5_room_132 (v_eql (y := u ((20 * ((na 18) j2)) + j5)) (congrArg u (nI_clamp (show ((20 * ((na 18) j2)) + j5) < 2 ^ 31 by omega))) ?_)
          refine v_lsub C dX5_room_133 (v_eql (y := ((zfd ((Int32.toInt64 (lmA (rL s j2) j5)) * ((u ((20 * ((na 19) j2)) + j5)) + (Int32.toInt64 ((ia 23) ((20 * j2) + j5)))))) - (u ((20 * ((na 18) j2)) + j5)))) (rfl) ?_)
          have ek : (kRoom s (nI j2) (nI j5)) = 0 := (if_pos ⟨(by rw [e17]; exact c1), c4⟩).trans (if_neg cD)
          exact v_lret C hQ hr (Nat.le_of_ble_eq_true rfl) (Nat.le_of_ble_eq_true rfl) dX5_room_134 (Or.inl ⟨ek, ⟨_, _, _, _, hm20, (hs.free rfl rfl rfl rfl (fun _ _ _ => rfl) rfl), rfl⟩, (by unfold vRoom; rw [eCa, eCq, hrm, hx1, hut _ _ hy1 (by omega)])⟩)
        · have c19 := (lgc_gt_f ((u ((20 * ((na 19) j2)) + j5)) + (Int32.toInt64 ((ia 23) ((20 * j2) + j5)))) 0).mp c19
          rw [hrm] at c19
          have cD : lmA (rL s (cl (nI j2))) (cl (nI j5)) = -1 ∨ rmBot s (cl (nI j2)) (cl (nI j5)) ≤ 0 := by rw [eCa, eCq]; exact Or.inr (Int64.not_lt.mp c19)
          refine v_iconst (v := 2) C dX5_room_88 (by decide) ?_
          refine v_goto (tgt := 93) C dX5_room_89 (by decide) ?_
          refine v_put C (mC ad (upN (upN ns 0 0) 0 2)) P_X5_85 hm9.1 rfl rfl rfl (Nat.le_of_ble_eq_true rfl) dX5_room_93 (v_nw (fun h27 eh27 => ?_))
          have hm27 := hm9.putS 0 2 rfl eh27
          refine v_aload_n C 2 rfl dX5_room_96 rfl ?_
          refine v_get (v := .int (nI 2)) C F_X5_85 hm27.1 rfl dX5_room_97 ?_
          refine v_if_le (tgt := 107) C dX5_room_100 (by decide) (fun c28 => absurd c28 (by decide)) (fun c28 => ?_)
          refine v_lconst (v := 0) C dX5_room_103 (by decide) ?_
          refine v_goto (tgt := 134) C dX5_room_104 (by decide) ?_
          have ek : (kRoom s (nI j2) (nI j5)) = 2 := (if_pos ⟨(by rw [e17]; exact c1), c4⟩).trans (if_pos cD)
          exact v_lret C hQ hr (Nat.le_of_ble_eq_true rfl) (Nat.le_of_ble_eq_true rfl) dX5_room_134 (Or.inr ⟨(by rw [ek]; decide), (by rw [ek]; exact ⟨_, _, _, _, hm27, hs.thr _, rfl⟩)⟩)
    · rw [zb_f c4] at e4; subst e4
      refine v_if_eq (tgt := 20) C dX5_room_13 (by decide) (fun c29 => ?_) (fun c29 => absurd c29 (by decide))
      refine v_iconst (v := 1) C dX5_room_20 (by decide) ?_
      refine v_put C (mC ad (upN ns 0 1)) P_X5_85 hm.1 rfl rfl rfl (Nat.le_of_ble_eq_true rfl) dX5_room_21 (v_nw (fun h30 eh30 => ?_))
      have hm30 := hm.putS 0 1 rfl eh30
      refine v_aload_n C 0 rfl dX5_room_24 rfl ?_
      refine v_get (v := .int (nI 1)) C F_X5_85 hm30.1 rfl dX5_room_25 ?_
      refine v_if_le (tgt := 33) C dX5_room_28 (by decide) (fun c31 => absurd c31 (by decide)) (fun c31 => ?_)
      refine v_lconst (v := 0) C dX5_room_31 (by decide) ?_
      have ek : (kRoom s (nI j2) q) = 1 := by simp [kRoom, inN, e17, c1, c4]
      exact v_lret C hQ hr (Nat.le_of_ble_eq_true rfl) (Nat.le_of_ble_eq_true rfl) dX5_room_32 (Or.inr ⟨(by rw [ek]; decide), (by rw [ek]; exact ⟨_, _, _, _, hm30, hs.thr _, rfl⟩)⟩)
  · rw [zb_f c1] at e1; subst e1
    refine v_if_eq (tgt := 20) C dX5_room_6 (by decide) (fun c32 => ?_) (fun c32 => absurd c32 (by decide))
    refine v_iconst (v := 1) C dX5_room_20 (by decide) ?_
    refine v_put C (mC ad (upN ns 0 1)) P_X5_85 hm.1 rfl rfl rfl (Nat.le_of_ble_eq_true rfl) dX5_room_21 (v_nw (fun h33 eh33 => ?_))
    have hm33 := hm.putS 0 1 rfl eh33
    refine v_aload_n C 0 rfl dX5_room_24 rfl ?_
    refine v_get (v := .int (nI 1)) C F_X5_85 hm33.1 rfl dX5_room_25 ?_
    refine v_if_le (tgt := 33) C dX5_room_28 (by decide) (fun c34 => absurd c34 (by decide)) (fun c34 => ?_)
    refine v_lconst (v := 0) C dX5_room_31 (by decide) ?_
    have ek : (kRoom s a q) = 1 := by simp [kRoom, inN, e17, c1]
    exact v_lret C hQ hr (Nat.le_of_ble_eq_true rfl) (Nat.le_of_ble_eq_true rfl) dX5_room_32 (Or.inr ⟨(by rw [ek]; decide), (by rw [ek]; exact ⟨_, _, _, _, hm33, hs.thr _, rfl⟩)⟩)
set_option maxHeartbeats 4000000 in
set_option maxRecDepth 100000 in
theorem c_X5_broken (l : Launch) (hl : l.stackTraces = false) (G : zG) (m : Nat) (ad : Nat → Nat) (ns : Nat → Nat) (na : Nat → Nat → Nat) (ia : Nat → Nat → Int32) (la : Nat → Nat → Int64) (h0 : zH) (s : ZS) (h : zH) (hm : MR G h0 h m ad ns na ia la) (hs : MS s ns na ia la) (hw : WFs s) : zMet eI l yX5_broken cX5_broken 4 (some .int) 15 0 0 G [.ref m] h (fun r h2 => r = nI (vBroken s (rN s)) ∧ MO G h0 h2 m ad s 0) := by
  refine con_of hl RX5 rfl (by decide +kernel) [(0, .ref m)] rfl (Nat.le_of_ble_eq_true rfl) ?_
  intro zp ze zs zm zargs zbelow zmeth zc C hr hin Q hQ
  have e2 : (oS s).length = ns 2 := hs.2.1.1.symm
  have e7 : oN s = ns 7 := hs.2.2.1.1.symm
  have e17 : rN s = ns 17 := hs.2.2.2.1.1.symm
  have e25 : bN s = ns 25 := hs.2.2.2.2.1.symm
  have hw2 : ns 2 ≤ 8 := by rw [← e2]; exact hw.1
  have hw7 : ns 7 ≤ 10 := by rw [← e7]; exact hw.2.2.1.1
  have hw17 : ns 17 ≤ 6 := by rw [← e17]; exact hw.2.2.2.2.1.1
  have hw25 : ns 25 ≤ 6 := by rw [← e25]; exact hw.2.2.2.2.2.1
  refine v_aload_n C 0 rfl dX5_broken_0 rfl ?_
  refine v_iconst (v := 0) C dX5_broken_1 (by decide) ?_
  refine v_put C (mC ad (upN ns 0 0)) P_X5_85 hm.1 rfl rfl rfl (Nat.le_of_ble_eq_true rfl) dX5_broken_2 (v_nw (fun h1 eh1 => ?_))
  have hm1 := hm.putS 0 0 rfl eh1
  refine v_aload_n C 0 rfl dX5_broken_5 rfl ?_
  refine v_callV (rest := []) C (c_X5_tells l hl G m ad (upN ns 0 0) na ia la h0 s h1 hm1 (hs.thr _) hw) K_X5_151 hm1.1 rfl rfl (Nat.le_of_ble_eq_true rfl) ⟨Nat.le_of_ble_eq_true rfl, Nat.le_of_ble_eq_true rfl⟩ ⟨Nat.le_of_ble_eq_true rfl, Nat.le_of_ble_eq_true rfl⟩ dX5_broken_6 (fun _ h2 q2 => ?_)
  obtain ⟨w, u, hm2, hut⟩ := q2
  refine v_iconst (v := 0) C dX5_broken_9 (by decide) ?_
  refine v_istore_n C [(1, .int 0), (0, .ref m)] rfl (by decide) dX5_broken_10 rfl ?_
  refine v_iconst (v := 0) C dX5_broken_11 (by decide) ?_
  refine v_istore_n C [(2, .int 0), (1, .int 0), (0, .ref m)] rfl (by decide) dX5_broken_12 rfl ?_
  have L3 : ∀ (d : Nat) (t : Nat), (t ≤ rN s) → (rN s + 1 ≤ t + d) → V zp l ze (rmm 15 0 0) zs zm zargs zbelow zmeth zc G 4 Q h2 (0 + 0) (0 + 0) 13 [(1, .int (nI (vBroken s t))), (2, .int (nI t)), (0, .ref m)] [] := by
    intro d
    induction d with
    | zero =>
      intro t ht hd
      exact absurd hd (by omega)
    | succ d ih3 =>
      intro t ht hd
      refine v_iload_n C 1 rfl dX5_broken_13 rfl ?_
      refine v_aload_n C 2 rfl dX5_broken_14 rfl ?_
      refine v_get (v := .int (nI (ns 17))) C F_X5_177 hm2.1 rfl dX5_broken_15 ?_
      refine v_icmp_ge (tgt := 59) C dX5_broken_18 (by decide) (fun c4 => ?_) (fun c4 => ?_)
      · have c4 := (nn_ge (a := t) (b := (ns 17)) (by omega) (by omega)).mp c4
        refine v_iload_n C 0 rfl dX5_broken_59 rfl ?_
        exact v_iret C hQ hr rfl (Nat.le_of_ble_eq_true rfl) (Nat.le_of_ble_eq_true rfl) dX5_broken_60 ⟨(by have hz : t = rN s := (by omega); rw [hz]), _, _, _, _, hm2, (hs.free rfl rfl rfl rfl (fun _ _ _ => rfl) rfl), rfl⟩
      · have c4 := (nn_ge_f (a := t) (b := (ns 17)) (by omega) (by omega)).mp c4
        refine v_iconst (v := 0) C dX5_broken_21 (by decide) ?_
        refine v_istore_n C [(3, .int 0), (1, .int (nI (vBroken s t))), (2, .int (nI t)), (0, .ref m)] rfl (by decide) dX5_broken_22 rfl ?_
        have L5 : ∀ (d : Nat) (i : Nat), (i ≤ 20) → (21 ≤ i + d) → V zp l ze (rmm 15 0 0) zs zm zargs zbelow zmeth zc G 4 Q h2 (0 + 0) (0 + 0) 23 [(3, .int (nI i)), (1, .int (nI (vBroken s t + cnt (fun z => decide (vState s t z = 4)) i))), (2, .int (nI t)), (0, .ref m)] [] := by
          intro d
          induction d with
          | zero =>
            intro i hi hd
            exact absurd hd (by omega)
          | succ d ih5 =>
            intro i hi hd
            refine v_iload_n C 0 rfl dX5_broken_23 rfl ?_
            refine v_bipush (v := 20) C dX5_broken_24 (by decide) ?_
            refine v_icmp_ge (tgt := 53) C dX5_broken_26 (by decide) (fun c6 => ?_) (fun c6 => ?_)
            · have c6 := (nk_ge (a := i) 20 (by decide) (by omega) (by decide)).mp c6
              refine v_iinc C 2 [(2, .int (nI (t + 1))), (3, .int (nI i)), (1, .int (nI (vBroken s t + cnt (fun z => decide (vState s t z = 4)) i))), (0, .ref m)] rfl (nI_inc t 1 (by decide)) rfl (by decide) dX5_broken_53 ?_
              refine v_goto (tgt := 13) C dX5_broken_56 (by decide) ?_
              refine v_lvp [2, 0, 3] rfl ?_
              have hi20 : i = 20 := by omega
              rw [hi20]
              exact ih3 (t + 1) (by omega) (by omega)
            · have c6 := (nk_ge_f (a := i) 20 (by decide) (by omega) (by decide)).mp c6
              refine v_iload_n C 1 rfl dX5_broken_29 rfl ?_
              refine v_aload_n C 3 rfl dX5_broken_30 rfl ?_
              refine v_iload_n C 2 rfl dX5_broken_31 rfl ?_
              refine v_iload_n C 0 rfl dX5_broken_32 rfl ?_
              refine v_callV (rest := [.int (nI (vBroken s t + cnt (fun z => decide (vState s t z = 4)) i))]) C (c_X5_stateOf l hl G m ad (upN ns 0 0) na ia (up2 (up2 la 13 w) 12 u) h0 s t i h2 hm2 (hs.free rfl rfl rfl rfl (fun _ _ _ => rfl) rfl) hw (show t < rN s by omega) (by omega) hut) K_X5_195 hm2.1 rfl rfl (Nat.le_of_ble_eq_true rfl) ⟨Nat.le_of_ble_eq_true rfl, Nat.le_of_ble_eq_true rfl⟩ ⟨Nat.le_of_ble_eq_true rfl, Nat.le_of_ble_eq_true rfl⟩ dX5_broken_33 (fun i8 h8 q8 => ?_)
              obtain ⟨e8, rfl⟩ := q8; subst e8
              have hv4 := vState_le s t i
              refine v_iconst (v := 4) C dX5_broken_36 (by decide) ?_
              refine v_icmp_ne (tgt := 44) C dX5_broken_37 (by decide) (fun c9 => ?_) (fun c9 => ?_)
              · have c9 := (nk_ne (a := (vState s t i)) 4 (by decide) (by omega) (by decide)).mp c9
                refine v_iconst (v := 0) C dX5_broken_44 (by decide) ?_
                refine v_iadd C dX5_broken_45 (v_eqi (nI_adk (vBroken s t + cnt (fun z => decide (vState s t z = 4)) i) 0 (by decide)) ?_)
                refine v_istore_n C [(1, .int (nI ((vBroken s t + cnt (fun z => decide (vState s t z = 4)) i) + 0))), (3, .int (nI i)), (2, .int (nI t)), (0, .ref m)] rfl (by decide) dX5_broken_46 rfl ?_
                refine v_iinc C 1 [(3, .int (nI (i + 1))), (1, .int (nI ((vBroken s t + cnt (fun z => decide (vState s t z = 4)) i) + 0))), (2, .int (nI t)), (0, .ref m)] rfl (nI_inc i 1 (by decide)) rfl (by decide) dX5_broken_47 ?_
                refine v_goto (tgt := 23) C dX5_broken_50 (by decide) ?_
                refine v_lvp [0, 1, 2, 3] rfl ?_
                rw [Nat.add_assoc (vBroken s t), cnt_st (p := (fun z => decide (vState s t z = 4))) (fun z => c9 (of_decide_eq_true z))]
                exact ih5 (i + 1) (by omega) (by omega)
              · have c9 := (nk_ne_f (a := (vState s t i)) 4 (by decide) (by omega) (by decide)).mp c9
                refine v_iconst (v := 1) C dX5_broken_40 (by decide) ?_
                refine v_goto (tgt := 45) C dX5_broken_41 (by decide) ?_
                refine v_iadd C dX5_broken_45 (v_eqi (nI_adk (vBroken s t + cnt (fun z => decide (vState s t z = 4)) i) 1 (by decide)) ?_)
                refine v_istore_n C [(1, .int (nI ((vBroken s t + cnt (fun z => decide (vState s t z = 4)) i) + 1))), (3, .int (nI i)), (2, .int (nI t)), (0, .ref m)] rfl (by decide) dX5_broken_46 rfl ?_
                refine v_iinc C 1 [(3, .int (nI (i + 1))), (1, .int (nI ((vBroken s t + cnt (fun z => decide (vState s t z = 4)) i) + 1))), (2, .int (nI t)), (0, .ref m)] rfl (nI_inc i 1 (by decide)) rfl (by decide) dX5_broken_47 ?_
                refine v_goto (tgt := 23) C dX5_broken_50 (by decide) ?_
                refine v_lvp [0, 1, 2, 3] rfl ?_
                rw [Nat.add_assoc (vBroken s t), cnt_up (p := (fun z => decide (vState s t z = 4))) (decide_eq_true c9)]
                exact ih5 (i + 1) (by omega) (by omega)
        refine v_lvp [0, 1, 2, 3] rfl ?_
        exact L5 21 0 (by decide) (by decide)
  refine v_lvp [1, 0, 2] rfl ?_
  exact L3 (rN s + 1) 0 (Nat.zero_le _) (by omega)

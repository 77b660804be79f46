/-! THE CLASS: helpers that leave the world -/
theorem in_t {x y : Int32} {n : Nat} (h : y = nI n) (h1 : ¬ x < 0) (h2 : ¬ y ≤ x) : 1 = zb (inN x n) := (zb_t (inN_iff.mpr ⟨Int32.not_lt.mp h1, by rw [← h]; exact Int32.not_le.mp h2⟩)).symm
theorem in_1 {x : Int32} {n : Nat} (h1 : x < 0) : 0 = zb (inN x n) := (zb_f (fun z => Int32.not_lt.mpr (inN_iff.mp z).1 h1)).symm
theorem in_2 {x y : Int32} {n : Nat} (h : y = nI n) (h1 : y ≤ x) : 0 = zb (inN x n) := (zb_f (fun z => Int32.not_le.mpr (inN_iff.mp z).2 (by rw [← h]; exact h1))).symm
set_option maxHeartbeats 4000000 in
set_option maxRecDepth 100000 in
theorem c_X4_isWithin (l : Launch) (hl : l.stackTraces = false) (G : zG) (x lo hi : Int32) (h : zH)  : zMet eI l yX4_isWithin cX4_isWithin 3 (some .boolean) 12 0 0 G [.int x, .int lo, .int hi] h (fun r h2 => r = zb (wth x lo hi) ∧ h = h2) := by
  refine con_of hl RX4 rfl (by decide +kernel) [(0, .int x), (1, .int lo), (2, .int hi)] rfl (Nat.le_of_ble_eq_true rfl) ?_
  intro zp ze zs zm zargs zbelow zmeth zc C hr hin Q hQ
  refine v_iload_n C 0 rfl dX4_isWithin_0 rfl ?_
  refine v_iload_n C 1 rfl dX4_isWithin_1 rfl ?_
  refine v_icmp_lt (tgt := 14) C dX4_isWithin_2 (by decide) (fun c1 => ?_) (fun c1 => ?_)
  · refine v_iconst (v := 0) C dX4_isWithin_14 (by decide) ?_
    exact v_iret C hQ hr rfl (Nat.le_of_ble_eq_true rfl) (Nat.le_of_ble_eq_true rfl) dX4_isWithin_15 ⟨wn_1 c1, rfl⟩
  · refine v_iload_n C 0 rfl dX4_isWithin_5 rfl ?_
    refine v_iload_n C 2 rfl dX4_isWithin_6 rfl ?_
    refine v_icmp_gt (tgt := 14) C dX4_isWithin_7 (by decide) (fun c2 => ?_) (fun c2 => ?_)
    · refine v_iconst (v := 0) C dX4_isWithin_14 (by decide) ?_
      exact v_iret C hQ hr rfl (Nat.le_of_ble_eq_true rfl) (Nat.le_of_ble_eq_true rfl) dX4_isWithin_15 ⟨wn_2 c2, rfl⟩
    · refine v_iconst (v := 1) C dX4_isWithin_10 (by decide) ?_
      refine v_goto (tgt := 15) C dX4_isWithin_11 (by decide) ?_
      exact v_iret C hQ hr rfl (Nat.le_of_ble_eq_true rfl) (Nat.le_of_ble_eq_true rfl) dX4_isWithin_15 ⟨wn_t c1 c2, rfl⟩
set_option maxHeartbeats 4000000 in
set_option maxRecDepth 100000 in
theorem c_X4_isAccount (l : Launch) (hl : l.stackTraces = false) (G : zG) (x : Int32) (h : zH)  : zMet eI l yX4_isAccount cX4_isAccount 1 (some .boolean) 12 0 0 G [.int x] h (fun r h2 => r = zb (inN x 6) ∧ h = h2) := by
  refine con_of hl RX4 rfl (by decide +kernel) [(0, .int x)] rfl (Nat.le_of_ble_eq_true rfl) ?_
  intro zp ze zs zm zargs zbelow zmeth zc C hr hin Q hQ
  refine v_iload_n C 0 rfl dX4_isAccount_0 rfl ?_
  refine v_if_lt (tgt := 14) C dX4_isAccount_1 (by decide) (fun c1 => ?_) (fun c1 => ?_)
  · refine v_iconst (v := 0) C dX4_isAccount_14 (by decide) ?_
    exact v_iret C hQ hr rfl (Nat.le_of_ble_eq_true rfl) (Nat.le_of_ble_eq_true rfl) dX4_isAccount_15 ⟨in_1 c1, rfl⟩
  · refine v_iload_n C 0 rfl dX4_isAccount_4 rfl ?_
    refine v_bipush (v := 6) C dX4_isAccount_5 (by decide) ?_
    refine v_icmp_ge (tgt := 14) C dX4_isAccount_7 (by decide) (fun c2 => ?_) (fun c2 => ?_)
    · refine v_iconst (v := 0) C dX4_isAccount_14 (by decide) ?_
      exact v_iret C hQ hr rfl (Nat.le_of_ble_eq_true rfl) (Nat.le_of_ble_eq_true rfl) dX4_isAccount_15 ⟨in_2 (by decide) c2, rfl⟩
    · refine v_iconst (v := 1) C dX4_isAccount_10 (by decide) ?_
      refine v_goto (tgt := 15) C dX4_isAccount_11 (by decide) ?_
      exact v_iret C hQ hr rfl (Nat.le_of_ble_eq_true rfl) (Nat.le_of_ble_eq_true rfl) dX4_isAccount_15 ⟨in_t (by decide) c1 c2, rfl⟩
set_option maxHeartbeats 4000000 in
set_option maxRecDepth 100000 in
theorem c_X4_isQuarter (l : Launch) (hl : l.stackTraces = false) (G : zG) (x : Int32) (h : zH)  : zMet eI l yX4_isQuarter cX4_isQuarter 1 (some .boolean) 12 0 0 G [.int x] h (fun r h2 => r = zb (inN x 20) ∧ h = h2) := by
  refine con_of hl RX4 rfl (by decide +kernel) [(0, .int x)] rfl (Nat.le_of_ble_eq_true rfl) ?_
  intro zp ze zs zm zargs zbelow zmeth zc C hr hin Q hQ
  refine v_iload_n C 0 rfl dX4_isQuarter_0 rfl ?_
  refine v_if_lt (tgt := 14) C dX4_isQuarter_1 (by decide) (fun c1 => ?_) (fun c1 => ?_)
  · refine v_iconst (v := 0) C dX4_isQuarter_14 (by decide) ?_
    exact v_iret C hQ hr rfl (Nat.le_of_ble_eq_true rfl) (Nat.le_of_ble_eq_true rfl) dX4_isQuarter_15 ⟨in_1 c1, rfl⟩
  · refine v_iload_n C 0 rfl dX4_isQuarter_4 rfl ?_
    refine v_bipush (v := 20) C dX4_isQuarter_5 (by decide) ?_
    refine v_icmp_ge (tgt := 14) C dX4_isQuarter_7 (by decide) (fun c2 => ?_) (fun c2 => ?_)
    · refine v_iconst (v := 0) C dX4_isQuarter_14 (by decide) ?_
      exact v_iret C hQ hr rfl (Nat.le_of_ble_eq_true rfl) (Nat.le_of_ble_eq_true rfl) dX4_isQuarter_15 ⟨in_2 (by decide) c2, rfl⟩
    · refine v_iconst (v := 1) C dX4_isQuarter_10 (by decide) ?_
      refine v_goto (tgt := 15) C dX4_isQuarter_11 (by decide) ?_
      exact v_iret C hQ hr rfl (Nat.le_of_ble_eq_true rfl) (Nat.le_of_ble_eq_true rfl) dX4_isQuarter_15 ⟨in_t (by decide) c1 c2, rfl⟩
set_option maxHeartbeats 4000000 in
set_option maxRecDepth 100000 in
theorem c_X4_isTerm (l : Launch) (hl : l.stackTraces = false) (G : zG) (x am l0 l1 l2 l3 : Nat) (ar : Nat) (L : List Nat) (t : Int32) (h : zH) (ho : h x = some (.inr (7, [.ref am, .ref l0, .ref l1, .ref l2, .ref l3]))) (hs : zAL G h l1 ar L) : zMet eI l yX4_isTerm cX4_isTerm 2 (some .boolean) 13 0 0 G [.ref x, .int t] h (fun r h2 => r = zb (inN t L.length) ∧ h = h2) := by
  refine con_of hl RX4 rfl (by decide +kernel) [(0, .ref x), (1, .int t)] rfl (Nat.le_of_ble_eq_true rfl) ?_
  intro zp ze zs zm zargs zbelow zmeth zc C hr hin Q hQ
  obtain ⟨mo, hA⟩ := hs.2.1
  refine v_iload_n C 1 rfl dX4_isTerm_0 rfl ?_
  refine v_if_lt (tgt := 19) C dX4_isTerm_1 (by decide) (fun c1 => ?_) (fun c1 => ?_)
  · refine v_iconst (v := 0) C dX4_isTerm_19 (by decide) ?_
    exact v_iret C hQ hr rfl (Nat.le_of_ble_eq_true rfl) (Nat.le_of_ble_eq_true rfl) dX4_isTerm_20 ⟨in_1 c1, rfl⟩
  · refine v_iload_n C 1 rfl dX4_isTerm_4 rfl ?_
    refine v_aload_n C 0 rfl dX4_isTerm_5 rfl ?_
    refine v_get (v := .ref l1) C F_X4_21 ho rfl dX4_isTerm_6 ?_
    refine v_callV (rest := [.int t]) C (c_Jx4a65c_size_8abf5 l hl G l1 ar L h hs) K_X4_60 hA rfl rfl (Nat.le_of_ble_eq_true rfl) ⟨Nat.le_of_ble_eq_true rfl, Nat.le_of_ble_eq_true rfl⟩ ⟨Nat.le_of_ble_eq_true rfl, Nat.le_of_ble_eq_true rfl⟩ dX4_isTerm_9 (fun i2 h2 q2 => ?_)
    obtain ⟨e2, rfl⟩ := q2; subst e2
    refine v_icmp_ge (tgt := 19) C dX4_isTerm_12 (by decide) (fun c3 => ?_) (fun c3 => ?_)
    · refine v_iconst (v := 0) C dX4_isTerm_19 (by decide) ?_
      exact v_iret C hQ hr rfl (Nat.le_of_ble_eq_true rfl) (Nat.le_of_ble_eq_true rfl) dX4_isTerm_20 ⟨in_2 rfl c3, rfl⟩
    · refine v_iconst (v := 1) C dX4_isTerm_15 (by decide) ?_
      refine v_goto (tgt := 20) C dX4_isTerm_16 (by decide) ?_
      exact v_iret C hQ hr rfl (Nat.le_of_ble_eq_true rfl) (Nat.le_of_ble_eq_true rfl) dX4_isTerm_20 ⟨in_t rfl c1 c3, rfl⟩
set_option maxHeartbeats 4000000 in
set_option maxRecDepth 100000 in
theorem c_X4_isTest (l : Launch) (hl : l.stackTraces = false) (G : zG) (x am l0 l1 l2 l3 : Nat) (ar : Nat) (L : List Nat) (t : Int32) (h : zH) (ho : h x = some (.inr (7, [.ref am, .ref l0, .ref l1, .ref l2, .ref l3]))) (hs : zAL G h l2 ar L) : zMet eI l yX4_isTest cX4_isTest 2 (some .boolean) 13 0 0 G [.ref x, .int t] h (fun r h2 => r = zb (inN t L.length) ∧ h = h2) := by
  refine con_of hl RX4 rfl (by decide +kernel) [(0, .ref x), (1, .int t)] rfl (Nat.le_of_ble_eq_true rfl) ?_
  intro zp ze zs zm zargs zbelow zmeth zc C hr hin Q hQ
  obtain ⟨mo, hA⟩ := hs.2.1
  refine v_iload_n C 1 rfl dX4_isTest_0 rfl ?_
  refine v_if_lt (tgt := 19) C dX4_isTest_1 (by decide) (fun c1 => ?_) (fun c1 => ?_)
  · refine v_iconst (v := 0) C dX4_isTest_19 (by decide) ?_
    exact v_iret C hQ hr rfl (Nat.le_of_ble_eq_true rfl) (Nat.le_of_ble_eq_true rfl) dX4_isTest_20 ⟨in_1 c1, rfl⟩
  · refine v_iload_n C 1 rfl dX4_isTest_4 rfl ?_
    refine v_aload_n C 0 rfl dX4_isTest_5 rfl ?_
    refine v_get (v := .ref l2) C F_X4_24 ho rfl dX4_isTest_6 ?_
    refine v_callV (rest := [.int t]) C (c_Jx4a65c_size_8abf5 l hl G l2 ar L h hs) K_X4_60 hA rfl rfl (Nat.le_of_ble_eq_true rfl) ⟨Nat.le_of_ble_eq_true rfl, Nat.le_of_ble_eq_true rfl⟩ ⟨Nat.le_of_ble_eq_true rfl, Nat.le_of_ble_eq_true rfl⟩ dX4_isTest_9 (fun i2 h2 q2 => ?_)
    obtain ⟨e2, rfl⟩ := q2; subst e2
    refine v_icmp_ge (tgt := 19) C dX4_isTest_12 (by decide) (fun c3 => ?_) (fun c3 => ?_)
    · refine v_iconst (v := 0) C dX4_isTest_19 (by decide) ?_
      exact v_iret C hQ hr rfl (Nat.le_of_ble_eq_true rfl) (Nat.le_of_ble_eq_true rfl) dX4_isTest_20 ⟨in_2 rfl c3, rfl⟩
    · refine v_iconst (v := 1) C dX4_isTest_15 (by decide) ?_
      refine v_goto (tgt := 20) C dX4_isTest_16 (by decide) ?_
      exact v_iret C hQ hr rfl (Nat.le_of_ble_eq_true rfl) (Nat.le_of_ble_eq_true rfl) dX4_isTest_20 ⟨in_t rfl c1 c3, rfl⟩
set_option maxHeartbeats 4000000 in
set_option maxRecDepth 100000 in
theorem c_X4_isBasket (l : Launch) (hl : l.stackTraces = false) (G : zG) (x am l0 l1 l2 l3 : Nat) (ar : Nat) (L : List Nat) (t : Int32) (h : zH) (ho : h x = some (.inr (7, [.ref am, .ref l0, .ref l1, .ref l2, .ref l3]))) (hs : zAL G h l3 ar L) : zMet eI l yX4_isBasket cX4_isBasket 2 (some .boolean) 13 0 0 G [.ref x, .int t] h (fun r h2 => r = zb (inN t L.length) ∧ h = h2) := by
  refine con_of hl RX4 rfl (by decide +kernel) [(0, .ref x), (1, .int t)] rfl (Nat.le_of_ble_eq_true rfl) ?_
  intro zp ze zs zm zargs zbelow zmeth zc C hr hin Q hQ
  obtain ⟨mo, hA⟩ := hs.2.1
  refine v_iload_n C 1 rfl dX4_isBasket_0 rfl ?_
  refine v_if_lt (tgt := 19) C dX4_isBasket_1 (by decide) (fun c1 => ?_) (fun c1 => ?_)
  · refine v_iconst (v := 0) C dX4_isBasket_19 (by decide) ?_
    exact v_iret C hQ hr rfl (Nat.le_of_ble_eq_true rfl) (Nat.le_of_ble_eq_true rfl) dX4_isBasket_20 ⟨in_1 c1, rfl⟩
  · refine v_iload_n C 1 rfl dX4_isBasket_4 rfl ?_
    refine v_aload_n C 0 rfl dX4_isBasket_5 rfl ?_
    refine v_get (v := .ref l3) C F_X4_27 ho rfl dX4_isBasket_6 ?_
    refine v_callV (rest := [.int t]) C (c_Jx4a65c_size_8abf5 l hl G l3 ar L h hs) K_X4_60 hA rfl rfl (Nat.le_of_ble_eq_true rfl) ⟨Nat.le_of_ble_eq_true rfl, Nat.le_of_ble_eq_true rfl⟩ ⟨Nat.le_of_ble_eq_true rfl, Nat.le_of_ble_eq_true rfl⟩ dX4_isBasket_9 (fun i2 h2 q2 => ?_)
    obtain ⟨e2, rfl⟩ := q2; subst e2
    refine v_icmp_ge (tgt := 19) C dX4_isBasket_12 (by decide) (fun c3 => ?_) (fun c3 => ?_)
    · refine v_iconst (v := 0) C dX4_isBasket_19 (by decide) ?_
      exact v_iret C hQ hr rfl (Nat.le_of_ble_eq_true rfl) (Nat.le_of_ble_eq_true rfl) dX4_isBasket_20 ⟨in_2 rfl c3, rfl⟩
    · refine v_iconst (v := 1) C dX4_isBasket_15 (by decide) ?_
      refine v_goto (tgt := 20) C dX4_isBasket_16 (by decide) ?_
      exact v_iret C hQ hr rfl (Nat.le_of_ble_eq_true rfl) (Nat.le_of_ble_eq_true rfl) dX4_isBasket_20 ⟨in_t rfl c1 c3, rfl⟩
set_option maxHeartbeats 4000000 in
set_option maxRecDepth 100000 in
theorem c_X4_canGrow (l : Launch) (hl : l.stackTraces = false) (G : zG) (a lv : Nat) (w0 w1 w2 w3 w4 w5 w6 w7 : Value) (h : zH) (ha : h a = some (.inr (4, [w0, w1, w2, w3, .int (nI lv), w5, w6, w7]))) (h6 : lv < 2 ^ 31) : zMet eI l yX4_canGrow cX4_canGrow 1 (some .boolean) 12 0 0 G [.ref a] h (fun r h2 => r = zb (lv < 6) ∧ h = h2) := by
  refine con_of hl RX4 rfl (by decide +kernel) [(0, .ref a)] rfl (Nat.le_of_ble_eq_true rfl) ?_
  intro zp ze zs zm zargs zbelow zmeth zc C hr hin Q hQ
  refine v_aload_n C 0 rfl dX4_canGrow_0 rfl ?_
  refine v_get (v := .int (nI lv)) C F_X4_147 ha rfl dX4_canGrow_1 ?_
  refine v_bipush (v := 6) C dX4_canGrow_4 (by decide) ?_
  refine v_icmp_ge (tgt := 13) C dX4_canGrow_6 (by decide) (fun c1 => ?_) (fun c1 => ?_)
  · have c1 := (nk_ge (a := lv) 6 (by decide) (by omega) (by decide)).mp c1
    refine v_iconst (v := 0) C dX4_canGrow_13 (by decide) ?_
    exact v_iret C hQ hr rfl (Nat.le_of_ble_eq_true rfl) (Nat.le_of_ble_eq_true rfl) dX4_canGrow_14 ⟨(zb_f (show ¬ lv < 6 by omega)).symm, rfl⟩
  · have c1 := (nk_ge_f (a := lv) 6 (by decide) (by omega) (by decide)).mp c1
    refine v_iconst (v := 1) C dX4_canGrow_9 (by decide) ?_
    refine v_goto (tgt := 14) C dX4_canGrow_10 (by decide) ?_
    exact v_iret C hQ hr rfl (Nat.le_of_ble_eq_true rfl) (Nat.le_of_ble_eq_true rfl) dX4_canGrow_14 ⟨(zb_t (show lv < 6 by omega)).symm, rfl⟩
set_option maxHeartbeats 4000000 in
set_option maxRecDepth 100000 in
theorem c_X1_levelOf_n (l : Launch) (hl : l.stackTraces = false) (G : zG)  (h : zH)  : zMet eI l yX1_levelOf cX1_levelOf 1 (some .int) 12 0 0 G [.null] h (fun r h2 => r = 0 ∧ h = h2) := by
  refine con_of hl RX1 rfl (by decide +kernel) [(0, .null)] rfl (Nat.le_of_ble_eq_true rfl) ?_
  intro zp ze zs zm zargs zbelow zmeth zc C hr hin Q hQ
  refine v_aload_nN C 0 rfl dX1_levelOf_0 rfl ?_
  refine v_ifnonnullN C dX1_levelOf_1 ?_
  refine v_iconst (v := 0) C dX1_levelOf_4 (by decide) ?_
  refine v_goto (tgt := 12) C dX1_levelOf_5 (by decide) ?_
  exact v_iret C hQ hr rfl (Nat.le_of_ble_eq_true rfl) (Nat.le_of_ble_eq_true rfl) dX1_levelOf_12 ⟨rfl, rfl⟩
set_option maxHeartbeats 4000000 in
set_option maxRecDepth 100000 in
theorem c_X1_levelOf_r (l : Launch) (hl : l.stackTraces = false) (G : zG) (a lv : Nat) (w0 w1 w2 w3 w4 w5 w6 w7 : Value) (h : zH) (ha : h a = some (.inr (4, [w0, w1, w2, w3, .int (nI lv), w5, w6, w7]))) : zMet eI l yX1_levelOf cX1_levelOf 1 (some .int) 12 0 0 G [.ref a] h (fun r h2 => r = nI lv ∧ h = h2) := by
  refine con_of hl RX1 rfl (by decide +kernel) [(0, .ref a)] rfl (Nat.le_of_ble_eq_true rfl) ?_
  intro zp ze zs zm zargs zbelow zmeth zc C hr hin Q hQ
  refine v_aload_n C 0 rfl dX1_levelOf_0 rfl ?_
  refine v_ifnonnull (tgt := 8) C dX1_levelOf_1 (by decide) ?_
  refine v_aload_n C 0 rfl dX1_levelOf_8 rfl ?_
  refine v_get (v := .int (nI lv)) C F_X1_25 ha rfl dX1_levelOf_9 ?_
  exact v_iret C hQ hr rfl (Nat.le_of_ble_eq_true rfl) (Nat.le_of_ble_eq_true rfl) dX1_levelOf_12 ⟨rfl, rfl⟩
set_option maxHeartbeats 4000000 in
set_option maxRecDepth 100000 in
theorem c_X1_greatestTermOf_n (l : Launch) (hl : l.stackTraces = false) (G : zG)  (h : zH)  : zMet eI l yX1_greatestTermOf cX1_greatestTermOf 1 (some .int) 12 0 0 G [.null] h (fun r h2 => r = gI 0 ∧ h = h2) := by
  refine con_of hl RX1 rfl (by decide +kernel) [(0, .null)] rfl (Nat.le_of_ble_eq_true rfl) ?_
  intro zp ze zs zm zargs zbelow zmeth zc C hr hin Q hQ
  refine v_aload_nN C 0 rfl dX1_greatestTermOf_0 rfl ?_
  refine v_ifnonnullN C dX1_greatestTermOf_1 ?_
  refine v_iconst (v := (-1)) C dX1_greatestTermOf_4 (by decide) ?_
  refine v_goto (tgt := 12) C dX1_greatestTermOf_5 (by decide) ?_
  exact v_iret C hQ hr rfl (Nat.le_of_ble_eq_true rfl) (Nat.le_of_ble_eq_true rfl) dX1_greatestTermOf_12 ⟨by decide, rfl⟩
set_option maxHeartbeats 4000000 in
set_option maxRecDepth 100000 in
theorem c_X1_greatestTermOf_r (l : Launch) (hl : l.stackTraces = false) (G : zG) (a gt : Nat) (w0 w1 w2 w3 w4 w5 w6 w7 : Value) (h : zH) (ha : h a = some (.inr (4, [w0, w1, w2, w3, w4, .int (gI gt), w6, w7]))) : zMet eI l yX1_greatestTermOf cX1_greatestTermOf 1 (some .int) 12 0 0 G [.ref a] h (fun r h2 => r = gI gt ∧ h = h2) := by
  refine con_of hl RX1 rfl (by decide +kernel) [(0, .ref a)] rfl (Nat.le_of_ble_eq_true rfl) ?_
  intro zp ze zs zm zargs zbelow zmeth zc C hr hin Q hQ
  refine v_aload_n C 0 rfl dX1_greatestTermOf_0 rfl ?_
  refine v_ifnonnull (tgt := 8) C dX1_greatestTermOf_1 (by decide) ?_
  refine v_aload_n C 0 rfl dX1_greatestTermOf_8 rfl ?_
  refine v_get (v := .int (gI gt)) C F_X1_28 ha rfl dX1_greatestTermOf_9 ?_
  exact v_iret C hQ hr rfl (Nat.le_of_ble_eq_true rfl) (Nat.le_of_ble_eq_true rfl) dX1_greatestTermOf_12 ⟨rfl, rfl⟩
theorem sjn_0 {k : Nat} {a b : Int64} (h : k = 0) : sjn k a b = a + b := if_pos h
theorem sjn_1 {k : Nat} {a b : Int64} (h0 : ¬ k = 0) (h : k = 1) : sjn k a b = a - b := (if_neg h0).trans (if_pos h)
theorem sjn_2 {k : Nat} {a b : Int64} (h0 : ¬ k = 0) (h1 : ¬ k = 1) (h : k = 2) : sjn k a b = if b < a then b else a := by
  unfold sjn; rw [if_neg h0, if_neg h1, if_pos h]
  by_cases q : a < b
  · rw [if_pos q, if_neg (fun z => absurd (i64_lt.mp q) (by have := i64_lt.mp z; omega))]
  · by_cases z : b < a
    · rw [if_neg q, if_pos z]
    · rw [if_neg q, if_neg z]; exact Int64.le_antisymm (Int64.not_lt.mp q) (Int64.not_lt.mp z)
theorem sjn_3 {k : Nat} {a b : Int64} (h0 : ¬ k = 0) (h1 : ¬ k = 1) (h : ¬ k = 2) : sjn k a b = if b < a then a else b := by
  unfold sjn; rw [if_neg h0, if_neg h1, if_neg h]
  by_cases q : a < b
  · rw [if_pos q, if_neg (fun z => absurd (i64_lt.mp q) (by have := i64_lt.mp z; omega))]
  · by_cases z : b < a
    · rw [if_neg q, if_pos z]
    · rw [if_neg q, if_neg z]; exact (Int64.le_antisymm (Int64.not_lt.mp q) (Int64.not_lt.mp z)).symm
set_option maxHeartbeats 4000000 in
set_option maxRecDepth 100000 in
theorem c_X4_joinOf (l : Launch) (hl : l.stackTraces = false) (G : zG) (k : Nat) (a b : Int64) (h : zH) (hk : k < 4) : zMet eL l yX4_joinOf cX4_joinOf 5 (some .long) 12 0 0 G [.int (nI k), .long a, .long b] h (fun r h2 => r = sjn k a b ∧ h = h2) := by
  refine con_of hl RX4 rfl (by decide +kernel) [(0, .int (nI k)), (1, .long a), (3, .long b)] rfl (Nat.le_of_ble_eq_true rfl) ?_
  intro zp ze zs zm zargs zbelow zmeth zc C hr hin Q hQ
  refine v_iload_n C 0 rfl dX4_joinOf_0 rfl ?_
  by_cases k0 : k = 0
  · refine v_tableIn (tgt := 28) (off := 27) C dX4_joinOf_1 (by rw [k0]; decide) (by rw [k0]; decide) (by rw [k0]; decide) (by decide) ?_
    refine v_lload_n C 1 rfl dX4_joinOf_28 rfl ?_
    refine v_lload_n C 2 rfl dX4_joinOf_29 rfl ?_
    refine v_ladd C dX4_joinOf_30 (v_topl (fun l1 e1 => ?_))
    exact v_lret C hQ hr (Nat.le_of_ble_eq_true rfl) (Nat.le_of_ble_eq_true rfl) dX4_joinOf_31 ⟨(by rw [e1]; exact (sjn_0 k0).symm), rfl⟩
  · by_cases k1 : k = 1
    · refine v_tableIn (tgt := 32) (off := 31) C dX4_joinOf_1 (by rw [k1]; decide) (by rw [k1]; decide) (by rw [k1]; decide) (by decide) ?_
      refine v_lload_n C 1 rfl dX4_joinOf_32 rfl ?_
      refine v_lload_n C 2 rfl dX4_joinOf_33 rfl ?_
      refine v_lsub C dX4_joinOf_34 (v_topl (fun l2 e2 => ?_))
      exact v_lret C hQ hr (Nat.le_of_ble_eq_true rfl) (Nat.le_of_ble_eq_true rfl) dX4_joinOf_35 ⟨(by rw [e2]; exact (sjn_1 k0 k1).symm), rfl⟩
    · by_cases k2 : k = 2
      · refine v_tableIn (tgt := 36) (off := 35) C dX4_joinOf_1 (by rw [k2]; decide) (by rw [k2]; decide) (by rw [k2]; decide) (by decide) ?_
        refine v_lload_n C 1 rfl dX4_joinOf_36 rfl ?_
        refine v_lload_n C 2 rfl dX4_joinOf_37 rfl ?_
        refine v_mmin_long C MM_X4_266 (Nat.le_of_ble_eq_true rfl) (Nat.le_of_ble_eq_true rfl) (Nat.le_of_ble_eq_true rfl) (Nat.le_of_ble_eq_true rfl) dX4_joinOf_38 (v_topl (fun l3 e3 => ?_))
        exact v_lret C hQ hr (Nat.le_of_ble_eq_true rfl) (Nat.le_of_ble_eq_true rfl) dX4_joinOf_41 ⟨(by rw [e3]; exact (sjn_2 k0 k1 k2).symm), rfl⟩
      · refine v_tableOut (tgt := 42) C dX4_joinOf_1 (Or.inr (by rw [nI_toInt (by omega)]; omega)) (by decide) ?_
        refine v_lload_n C 1 rfl dX4_joinOf_42 rfl ?_
        refine v_lload_n C 2 rfl dX4_joinOf_43 rfl ?_
        refine v_mmax_long C MM_X4_271 (Nat.le_of_ble_eq_true rfl) (Nat.le_of_ble_eq_true rfl) (Nat.le_of_ble_eq_true rfl) (Nat.le_of_ble_eq_true rfl) dX4_joinOf_44 (v_topl (fun l4 e4 => ?_))
        exact v_lret C hQ hr (Nat.le_of_ble_eq_true rfl) (Nat.le_of_ble_eq_true rfl) dX4_joinOf_47 ⟨(by rw [e4]; exact (sjn_3 k0 k1 k2).symm), rfl⟩
set_option maxHeartbeats 4000000 in
set_option maxRecDepth 100000 in
theorem c_X4_shareOf (l : Launch) (hl : l.stackTraces = false) (G : zG) (x : Int64) (p : Int32) (h : zH)  : zMet eL l yX4_shareOf cX4_shareOf 3 (some .long) 13 0 0 G [.long x, .int p] h (fun r h2 => r = zfd (x * p.toInt64) ∧ h = h2) := by
  refine con_of hl RX4 rfl (by decide +kernel) [(0, .long x), (2, .int p)] rfl (Nat.le_of_ble_eq_true rfl) ?_
  intro zp ze zs zm zargs zbelow zmeth zc C hr hin Q hQ
  refine v_lload_n C 0 rfl dX4_shareOf_0 rfl ?_
  refine v_iload_n C 1 rfl dX4_shareOf_1 rfl ?_
  refine v_i2l (v := (p : Int32).toInt64) C dX4_shareOf_2 rfl ?_
  refine v_lmul C dX4_shareOf_3 (v_eql (y := (x * p.toInt64)) (rfl) ?_)
  refine v_ldc2 C KO_X4_273 dX4_shareOf_4 ?_
  refine v_callS (rest := []) C (c_J9_floorDiv_f86c9 l hl G (x * p.toInt64) h) S_X4_275 rfl rfl (Nat.le_of_ble_eq_true rfl) ⟨Nat.le_of_ble_eq_true rfl, Nat.le_of_ble_eq_true rfl⟩ ⟨Nat.le_of_ble_eq_true rfl, Nat.le_of_ble_eq_true rfl⟩ dX4_shareOf_7 (fun l2 h2 q2 => ?_)
  obtain ⟨e2, rfl⟩ := q2; subst e2
  exact v_lret C hQ hr (Nat.le_of_ble_eq_true rfl) (Nat.le_of_ble_eq_true rfl) dX4_shareOf_10 ⟨rfl, rfl⟩
set_option maxHeartbeats 4000000 in
set_option maxRecDepth 100000 in
theorem c_X4_yearOf (l : Launch) (hl : l.stackTraces = false) (G : zG) (r q : Nat) (f : Nat → Int64) (h : zH) (hrw : h r = some (cL G f)) (hq : q < 20) : zMet eL l yX4_yearOf cX4_yearOf 5 (some .long) 12 0 0 G [.ref r, .int (nI q)] h (fun r h2 => r = syr f q 4 ∧ h = h2) := by
  refine con_of hl RX4 rfl (by decide +kernel) [(0, .ref r), (1, .int (nI q))] rfl (Nat.le_of_ble_eq_true rfl) ?_
  intro zp ze zs zm zargs zbelow zmeth zc C hr hin Q hQ
  refine v_lconst (v := 0) C dX4_yearOf_0 (by decide) ?_
  refine v_lstore_n C [(2, .long 0), (0, .ref r), (1, .int (nI q))] rfl (by decide) dX4_yearOf_1 rfl ?_
  refine v_iconst (v := 0) C dX4_yearOf_2 (by decide) ?_
  refine v_istore C [(4, .int 0), (2, .long 0), (0, .ref r), (1, .int (nI q))] rfl (by decide) dX4_yearOf_3 ?_
  have L1 : ∀ (d : Nat) (b : Nat), (b ≤ 4) → (5 ≤ b + d) → V zp l ze (rmm 12 0 0) zs zm zargs zbelow zmeth zc G 5 Q h (0) (0) 5 [(4, .int (nI b)), (2, .long (syr f q b)), (0, .ref r), (1, .int (nI q))] [] := by
    intro d
    induction d with
    | zero =>
      intro b hb hd
      exact absurd hd (by omega)
    | succ d ih1 =>
      intro b hb hd
      refine v_iload C 0 rfl dX4_yearOf_5 ?_
      refine v_iconst (v := 4) C dX4_yearOf_7 (by decide) ?_
      refine v_icmp_ge (tgt := 32) C dX4_yearOf_8 (by decide) (fun c2 => ?_) (fun c2 => ?_)
      · have c2 := (nk_ge (a := b) 4 (by decide) (by omega) (by decide)).mp c2
        refine v_lload_n C 1 rfl dX4_yearOf_32 rfl ?_
        exact v_lret C hQ hr (Nat.le_of_ble_eq_true rfl) (Nat.le_of_ble_eq_true rfl) dX4_yearOf_33 ⟨(syr_stop_or (by omega)).symm, rfl⟩
      · have c2 := (nk_ge_f (a := b) 4 (by decide) (by omega) (by decide)).mp c2
        refine v_iload C 0 rfl dX4_yearOf_11 ?_
        refine v_iload_n C 3 rfl dX4_yearOf_13 rfl ?_
        refine v_icmp_gt (tgt := 32) C dX4_yearOf_14 (by decide) (fun c3 => ?_) (fun c3 => ?_)
        · have c3 := (nn_gt (a := b) (b := q) (by omega) (by omega)).mp c3
          refine v_lload_n C 1 rfl dX4_yearOf_32 rfl ?_
          exact v_lret C hQ hr (Nat.le_of_ble_eq_true rfl) (Nat.le_of_ble_eq_true rfl) dX4_yearOf_33 ⟨(syr_stop_or (by omega)).symm, rfl⟩
        · have c3 := (nn_gt_f (a := b) (b := q) (by omega) (by omega)).mp c3
          refine v_lload_n C 1 rfl dX4_yearOf_17 rfl ?_
          refine v_aload_n C 2 rfl dX4_yearOf_18 rfl ?_
          refine v_iload_n C 3 rfl dX4_yearOf_19 rfl ?_
          refine v_iload C 0 rfl dX4_yearOf_20 ?_
          refine v_isub C dX4_yearOf_22 (v_eqi (pk_sub (a := q) (b := b) (by omega)) ?_)
          refine v_lald C hrw (vpin (show (q - b) < 20 by omega) (by decide)) dX4_yearOf_23 (v_eql (y := f (q - b)) (congrArg f (nI_clamp (show (q - b) < 2 ^ 31 by omega))) ?_)
          refine v_ladd C dX4_yearOf_24 (v_eql (y := ((syr f q b) + (f (q - b)))) (rfl) ?_)
          refine v_lstore_n C [(2, .long ((syr f q b) + (f (q - b)))), (4, .int (nI b)), (0, .ref r), (1, .int (nI q))] rfl (by decide) dX4_yearOf_25 rfl ?_
          refine v_iinc C 1 [(4, .int (nI (b + 1))), (2, .long ((syr f q b) + (f (q - b)))), (0, .ref r), (1, .int (nI q))] rfl (nI_inc b 1 (by decide)) rfl (by decide) dX4_yearOf_26 ?_
          refine v_goto (tgt := 5) C dX4_yearOf_29 (by decide) ?_
          refine v_lvp [0, 1, 2, 3] rfl ?_
          rw [show syr f q b + f (q - b) = syr f q (b + 1) from (syr_s (by omega)).symm]
          exact ih1 (b + 1) (by omega) (by omega)
  refine v_lvp [0, 1, 2, 3] rfl ?_
  exact L1 5 0 (by decide) (by decide)
set_option maxHeartbeats 4000000 in
set_option maxRecDepth 100000 in
theorem c_X4_valueMade_S (l : Launch) (hl : l.stackTraces = false) (G : zG) (a a1 r1 q : Nat) (f : Nat → Int64) (p : Nat) (w4 w5 w6 w7 : Value) (u0 u1 u2 u3 u4 u5 u6 : Value) (h : zH) (ha : h a = some (.inr (4, [.int (nI 5), .int (nI p), .ref a1, .null, w4, w5, w6, w7]))) (h1 : h a1 = some (.inr (4, [u0, u1, u2, u3, u4, u5, u6, .ref r1]))) (hrw : h r1 = some (cL G f)) (hq : q < 20) : zMet eL l yX4_valueMade cX4_valueMade 4 (some .long) 14 0 0 G [.ref a, .int (nI q)] h (fun r h2 => r = zfd (f q * lN64 p) ∧ h = h2) := by
  refine con_of hl RX4 rfl (by decide +kernel) [(0, .ref a), (1, .int (nI q))] rfl (Nat.le_of_ble_eq_true rfl) ?_
  intro zp ze zs zm zargs zbelow zmeth zc C hr hin Q hQ
  refine v_aload_n C 0 rfl dX4_valueMade_0 rfl ?_
  refine v_get (v := .ref a1) C F_X4_240 ha rfl dX4_valueMade_1 ?_
  refine v_astore_n C [(2, .ref a1), (0, .ref a), (1, .int (nI q))] rfl (by decide) dX4_valueMade_4 rfl ?_
  refine v_aload_n C 0 rfl dX4_valueMade_5 rfl ?_
  refine v_ifnonnull (tgt := 11) C dX4_valueMade_6 (by decide) ?_
  refine v_aload_n C 1 rfl dX4_valueMade_11 rfl ?_
  refine v_get (v := .int (nI 5)) C F_X4_237 ha rfl dX4_valueMade_12 ?_
  refine v_iconst (v := 5) C dX4_valueMade_15 (by decide) ?_
  refine v_icmp_ne (tgt := 33) C dX4_valueMade_16 (by decide) (fun c1 => absurd c1 (by decide)) (fun c1 => ?_)
  refine v_aload_n C 0 rfl dX4_valueMade_19 rfl ?_
  refine v_get (v := .ref r1) C F_X4_236 h1 rfl dX4_valueMade_20 ?_
  refine v_iload_n C 2 rfl dX4_valueMade_23 rfl ?_
  refine v_lald C hrw (vpin (show q < 20 by omega) (by decide)) dX4_valueMade_24 (v_eql (y := f q) (congrArg f (nI_clamp (show q < 2 ^ 31 by omega))) ?_)
  refine v_aload_n C 1 rfl dX4_valueMade_25 rfl ?_
  refine v_get (v := .int (nI p)) C F_X4_251 ha rfl dX4_valueMade_26 ?_
  refine v_callS (rest := []) C (c_X4_shareOf l hl G (f q) (nI p) h) S_X4_254 rfl rfl (Nat.le_of_ble_eq_true rfl) ⟨Nat.le_of_ble_eq_true rfl, Nat.le_of_ble_eq_true rfl⟩ ⟨Nat.le_of_ble_eq_true rfl, Nat.le_of_ble_eq_true rfl⟩ dX4_valueMade_29 (fun l2 h2 q2 => ?_)
  obtain ⟨e2, rfl⟩ := q2; subst e2
  exact v_lret C hQ hr (Nat.le_of_ble_eq_true rfl) (Nat.le_of_ble_eq_true rfl) dX4_valueMade_32 ⟨rfl, rfl⟩
set_option maxHeartbeats 4000000 in
set_option maxRecDepth 100000 in
theorem c_X4_valueMade_Y (l : Launch) (hl : l.stackTraces = false) (G : zG) (a a1 r1 q : Nat) (f : Nat → Int64) (w1 : Value) (w4 w5 w6 w7 : Value) (u0 u1 u2 u3 u4 u5 u6 : Value) (h : zH) (ha : h a = some (.inr (4, [.int (nI 6), w1, .ref a1, .null, w4, w5, w6, w7]))) (h1 : h a1 = some (.inr (4, [u0, u1, u2, u3, u4, u5, u6, .ref r1]))) (hrw : h r1 = some (cL G f)) (hq : q < 20) : zMet eL l yX4_valueMade cX4_valueMade 4 (some .long) 13 0 0 G [.ref a, .int (nI q)] h (fun r h2 => r = syr f q 4 ∧ h = h2) := by
  refine con_of hl RX4 rfl (by decide +kernel) [(0, .ref a), (1, .int (nI q))] rfl (Nat.le_of_ble_eq_true rfl) ?_
  intro zp ze zs zm zargs zbelow zmeth zc C hr hin Q hQ
  refine v_aload_n C 0 rfl dX4_valueMade_0 rfl ?_
  refine v_get (v := .ref a1) C F_X4_240 ha rfl dX4_valueMade_1 ?_
  refine v_astore_n C [(2, .ref a1), (0, .ref a), (1, .int (nI q))] rfl (by decide) dX4_valueMade_4 rfl ?_
  refine v_aload_n C 0 rfl dX4_valueMade_5 rfl ?_
  refine v_ifnonnull (tgt := 11) C dX4_valueMade_6 (by decide) ?_
  refine v_aload_n C 1 rfl dX4_valueMade_11 rfl ?_
  refine v_get (v := .int (nI 6)) C F_X4_237 ha rfl dX4_valueMade_12 ?_
  refine v_iconst (v := 5) C dX4_valueMade_15 (by decide) ?_
  refine v_icmp_ne (tgt := 33) C dX4_valueMade_16 (by decide) (fun c1 => ?_) (fun c1 => absurd c1 (by decide))
  refine v_aload_n C 1 rfl dX4_valueMade_33 rfl ?_
  refine v_get (v := .int (nI 6)) C F_X4_237 ha rfl dX4_valueMade_34 ?_
  refine v_bipush (v := 6) C dX4_valueMade_37 (by decide) ?_
  refine v_icmp_ne (tgt := 51) C dX4_valueMade_39 (by decide) (fun c2 => absurd c2 (by decide)) (fun c2 => ?_)
  refine v_aload_n C 0 rfl dX4_valueMade_42 rfl ?_
  refine v_get (v := .ref r1) C F_X4_236 h1 rfl dX4_valueMade_43 ?_
  refine v_iload_n C 2 rfl dX4_valueMade_46 rfl ?_
  refine v_callS (rest := []) C (c_X4_yearOf l hl G r1 q f h hrw (by omega)) S_X4_258 rfl rfl (Nat.le_of_ble_eq_true rfl) ⟨Nat.le_of_ble_eq_true rfl, Nat.le_of_ble_eq_true rfl⟩ ⟨Nat.le_of_ble_eq_true rfl, Nat.le_of_ble_eq_true rfl⟩ dX4_valueMade_47 (fun l3 h3 q3 => ?_)
  obtain ⟨e3, rfl⟩ := q3; subst e3
  exact v_lret C hQ hr (Nat.le_of_ble_eq_true rfl) (Nat.le_of_ble_eq_true rfl) dX4_valueMade_50 ⟨rfl, rfl⟩
set_option maxHeartbeats 4000000 in
set_option maxRecDepth 100000 in
theorem c_X4_valueMade_J (l : Launch) (hl : l.stackTraces = false) (G : zG) (a a1 r1 q : Nat) (f : Nat → Int64) (a2 r2 k : Nat) (f2 : Nat → Int64) (w1 : Value) (w4 w5 w6 w7 : Value) (u0 u1 u2 u3 u4 u5 u6 : Value) (v0 v1 v2 v3 v4 v5 v6 : Value) (h : zH) (ha : h a = some (.inr (4, [.int (nI k), w1, .ref a1, .ref a2, w4, w5, w6, w7]))) (h1 : h a1 = some (.inr (4, [u0, u1, u2, u3, u4, u5, u6, .ref r1]))) (hrw : h r1 = some (cL G f)) (hq : q < 20) (h2 : h a2 = some (.inr (4, [v0, v1, v2, v3, v4, v5, v6, .ref r2]))) (hr2 : h r2 = some (cL G f2)) (hk : k < 4) : zMet eL l yX4_valueMade cX4_valueMade 4 (some .long) 13 0 0 G [.ref a, .int (nI q)] h (fun r h2 => r = sjn k (f q) (f2 q) ∧ h = h2) := by
  refine con_of hl RX4 rfl (by decide +kernel) [(0, .ref a), (1, .int (nI q))] rfl (Nat.le_of_ble_eq_true rfl) ?_
  intro zp ze zs zm zargs zbelow zmeth zc C hr hin Q hQ
  refine v_aload_n C 0 rfl dX4_valueMade_0 rfl ?_
  refine v_get (v := .ref a1) C F_X4_240 ha rfl dX4_valueMade_1 ?_
  refine v_astore_n C [(2, .ref a1), (0, .ref a), (1, .int (nI q))] rfl (by decide) dX4_valueMade_4 rfl ?_
  refine v_aload_n C 0 rfl dX4_valueMade_5 rfl ?_
  refine v_ifnonnull (tgt := 11) C dX4_valueMade_6 (by decide) ?_
  refine v_aload_n C 1 rfl dX4_valueMade_11 rfl ?_
  refine v_get (v := .int (nI k)) C F_X4_237 ha rfl dX4_valueMade_12 ?_
  refine v_iconst (v := 5) C dX4_valueMade_15 (by decide) ?_
  refine v_icmp_ne (tgt := 33) C dX4_valueMade_16 (by decide) (fun c1 => ?_) (fun c1 => absurd ((nk_eq (a := k) 5 (by decide) (by omega) (by decide)).mp c1) (by omega))
  have c1 := (nk_ne (a := k) 5 (by decide) (by omega) (by decide)).mp c1
  refine v_aload_n C 1 rfl dX4_valueMade_33 rfl ?_
  refine v_get (v := .int (nI k)) C F_X4_237 ha rfl dX4_valueMade_34 ?_
  refine v_bipush (v := 6) C dX4_valueMade_37 (by decide) ?_
  refine v_icmp_ne (tgt := 51) C dX4_valueMade_39 (by decide) (fun c2 => ?_) (fun c2 => absurd ((nk_eq (a := k) 6 (by decide) (by omega) (by decide)).mp c2) (by omega))
  have c2 := (nk_ne (a := k) 6 (by decide) (by omega) (by decide)).mp c2
  refine v_aload_n C 1 rfl dX4_valueMade_51 rfl ?_
  refine v_get (v := .ref a2) C F_X4_244 ha rfl dX4_valueMade_52 ?_
  refine v_astore_n C [(3, .ref a2), (2, .ref a1), (0, .ref a), (1, .int (nI q))] rfl (by decide) dX4_valueMade_55 rfl ?_
  refine v_aload_n C 0 rfl dX4_valueMade_56 rfl ?_
  refine v_ifnonnull (tgt := 62) C dX4_valueMade_57 (by decide) ?_
  refine v_aload_n C 2 rfl dX4_valueMade_62 rfl ?_
  refine v_get (v := .int (nI k)) C F_X4_237 ha rfl dX4_valueMade_63 ?_
  refine v_aload_n C 1 rfl dX4_valueMade_66 rfl ?_
  refine v_get (v := .ref r1) C F_X4_236 h1 rfl dX4_valueMade_67 ?_
  refine v_iload_n C 3 rfl dX4_valueMade_70 rfl ?_
  refine v_lald C hrw (vpin (show q < 20 by omega) (by decide)) dX4_valueMade_71 (v_eql (y := f q) (congrArg f (nI_clamp (show q < 2 ^ 31 by omega))) ?_)
  refine v_aload_n C 0 rfl dX4_valueMade_72 rfl ?_
  refine v_get (v := .ref r2) C F_X4_236 h2 rfl dX4_valueMade_73 ?_
  refine v_iload_n C 3 rfl dX4_valueMade_76 rfl ?_
  refine v_lald C hr2 (vpin (show q < 20 by omega) (by decide)) dX4_valueMade_77 (v_eql (y := f2 q) (congrArg f2 (nI_clamp (show q < 2 ^ 31 by omega))) ?_)
  refine v_callS (rest := []) C (c_X4_joinOf l hl G k (f q) (f2 q) h hk) S_X4_262 rfl rfl (Nat.le_of_ble_eq_true rfl) ⟨Nat.le_of_ble_eq_true rfl, Nat.le_of_ble_eq_true rfl⟩ ⟨Nat.le_of_ble_eq_true rfl, Nat.le_of_ble_eq_true rfl⟩ dX4_valueMade_78 (fun l3 h3 q3 => ?_)
  obtain ⟨e3, rfl⟩ := q3; subst e3
  exact v_lret C hQ hr (Nat.le_of_ble_eq_true rfl) (Nat.le_of_ble_eq_true rfl) dX4_valueMade_81 ⟨rfl, rfl⟩
set_option maxHeartbeats 4000000 in
set_option maxRecDepth 100000 in
theorem c_X4_isKept (l : Launch) (hl : l.stackTraces = false) (G : zG) (t b : Int64) (l2 : Int32) (h : zH)  : zMet eI l yX4_isKept cX4_isKept 5 (some .boolean) 12 0 0 G [.long t, .long b, .int l2] h (fun r h2 => r = zb (0 < b ∧ 100 * t ≤ l2.toInt64 * b) ∧ h = h2) := by
  refine con_of hl RX4 rfl (by decide +kernel) [(0, .long t), (2, .long b), (4, .int l2)] rfl (Nat.le_of_ble_eq_true rfl) ?_
  intro zp ze zs zm zargs zbelow zmeth zc C hr hin Q hQ
  refine v_lload_n C 1 rfl dX4_isKept_0 rfl ?_
  refine v_lconst (v := 0) C dX4_isKept_1 (by decide) ?_
  refine v_lcmp C dX4_isKept_2 ?_
  refine v_if_le (tgt := 24) C dX4_isKept_3 (by decide) (fun c1 => ?_) (fun c1 => ?_)
  · have c1 := (lgc_le b 0).mp c1
    refine v_iconst (v := 0) C dX4_isKept_24 (by decide) ?_
    exact v_iret C hQ hr rfl (Nat.le_of_ble_eq_true rfl) (Nat.le_of_ble_eq_true rfl) dX4_isKept_25 ⟨(zb_f (fun z => Int64.not_le.mpr z.1 c1)).symm, rfl⟩
  · have c1 := (lgc_le_f b 0).mp c1
    refine v_ldc2 C KO_X4_273 dX4_isKept_6 ?_
    refine v_lload_n C 0 rfl dX4_isKept_9 rfl ?_
    refine v_lmul C dX4_isKept_10 (v_eql (y := (100 * t)) (rfl) ?_)
    refine v_iload C 2 rfl dX4_isKept_11 ?_
    refine v_i2l (v := (l2 : Int32).toInt64) C dX4_isKept_13 rfl ?_
    refine v_lload_n C 1 rfl dX4_isKept_14 rfl ?_
    refine v_lmul C dX4_isKept_15 (v_eql (y := (l2.toInt64 * b)) (rfl) ?_)
    refine v_lcmp C dX4_isKept_16 ?_
    refine v_if_gt (tgt := 24) C dX4_isKept_17 (by decide) (fun c4 => ?_) (fun c4 => ?_)
    · have c4 := (lgc_gt (100 * t) (l2.toInt64 * b)).mp c4
      refine v_iconst (v := 0) C dX4_isKept_24 (by decide) ?_
      exact v_iret C hQ hr rfl (Nat.le_of_ble_eq_true rfl) (Nat.le_of_ble_eq_true rfl) dX4_isKept_25 ⟨(zb_f (fun z => Int64.not_lt.mpr z.2 c4)).symm, rfl⟩
    · have c4 := (lgc_gt_f (100 * t) (l2.toInt64 * b)).mp c4
      refine v_iconst (v := 1) C dX4_isKept_20 (by decide) ?_
      refine v_goto (tgt := 25) C dX4_isKept_21 (by decide) ?_
      exact v_iret C hQ hr rfl (Nat.le_of_ble_eq_true rfl) (Nat.le_of_ble_eq_true rfl) dX4_isKept_25 ⟨(zb_t ⟨Int64.not_le.mp c1, Int64.not_lt.mp c4⟩).symm, rfl⟩

theorem wn_t {x lo hi : Int32} (h1 : ¬ x < lo) (h2 : ¬ hi < x) : 1 = zb (wth x lo hi) := (zb_t (wth_iff.mpr ⟨Int32.not_lt.mp h1, Int32.not_lt.mp h2⟩)).symm
theorem wn_1 {x lo hi : Int32} (h1 : x < lo) : 0 = zb (wth x lo hi) := (zb_f (fun z => Int32.not_lt.mpr (wth_iff.mp z).1 h1)).symm
theorem wn_2 {x lo hi : Int32} (h1 : hi < x) : 0 = zb (wth x lo hi) := (zb_f (fun z => Int32.not_lt.mpr (wth_iff.mp z).2 h1)).symm
theorem zfd_rem (x : Int64) : x - x / 100 * 100 = x % 100 := by
  rw [← Int64.toInt_inj, Int64.toInt_sub, zfd_mul, zfd_mod]
  have h1 := x.le_toInt; have h2 := x.toInt_lt
  have a := Int.mul_tdiv_add_tmod x.toInt 100
  have b := Int.tdiv_eq_ediv (a := x.toInt) (b := 100); rw [show Int.sign 100 = 1 from rfl] at b
  rw [show x.toInt - x.toInt.tdiv 100 * 100 = x.toInt.tmod 100 by omega]
  apply Int.bmod_eq_of_le
  · split at b <;> omega
  · split at b <;> omega
theorem zfd_p {x : Int64} (h : 0 ≤ x % 100) : x / 100 = zfd x := (if_neg (Int64.not_lt.mpr h)).symm
theorem zfd_m {x : Int64} (h : ¬ 0 ≤ x % 100) : x / 100 - 1 = zfd x := (if_pos (Int64.not_le.mp h)).symm
set_option maxHeartbeats 4000000 in
set_option maxRecDepth 100000 in
theorem c_X5_isIn (l : Launch) (hl : l.stackTraces = false) (G : zG) (x lo hi : Int32) (h : zH)  : zMet eI l yX5_isIn cX5_isIn 3 (some .boolean) 12 0 0 G [.int x, .int lo, .int hi] h (fun r h2 => r = zb (wth x lo hi) ∧ h = h2) := by
  refine con_of hl RX5 rfl (by decide +kernel) [(0, .int x), (1, .int lo), (2, .int hi)] rfl (Nat.le_of_ble_eq_true rfl) ?_
  intro zp ze zs zm zargs zbelow zmeth zc C hr hin Q hQ
  refine v_iload_n C 0 rfl dX5_isIn_0 rfl ?_
  refine v_iload_n C 1 rfl dX5_isIn_1 rfl ?_
  refine v_icmp_lt (tgt := 14) C dX5_isIn_2 (by decide) (fun c1 => ?_) (fun c1 => ?_)
  · refine v_iconst (v := 0) C dX5_isIn_14 (by decide) ?_
    exact v_iret C hQ hr rfl (Nat.le_of_ble_eq_true rfl) (Nat.le_of_ble_eq_true rfl) dX5_isIn_15 ⟨wn_1 c1, rfl⟩
  · refine v_iload_n C 0 rfl dX5_isIn_5 rfl ?_
    refine v_iload_n C 2 rfl dX5_isIn_6 rfl ?_
    refine v_icmp_gt (tgt := 14) C dX5_isIn_7 (by decide) (fun c2 => ?_) (fun c2 => ?_)
    · refine v_iconst (v := 0) C dX5_isIn_14 (by decide) ?_
      exact v_iret C hQ hr rfl (Nat.le_of_ble_eq_true rfl) (Nat.le_of_ble_eq_true rfl) dX5_isIn_15 ⟨wn_2 c2, rfl⟩
    · refine v_iconst (v := 1) C dX5_isIn_10 (by decide) ?_
      refine v_goto (tgt := 15) C dX5_isIn_11 (by decide) ?_
      exact v_iret C hQ hr rfl (Nat.le_of_ble_eq_true rfl) (Nat.le_of_ble_eq_true rfl) dX5_isIn_15 ⟨wn_t c1 c2, rfl⟩
set_option maxHeartbeats 4000000 in
set_option maxRecDepth 100000 in
theorem c_X5_isQuarter (l : Launch) (hl : l.stackTraces = false) (G : zG) (x : Int32) (h : zH)  : zMet eI l yX5_isQuarter cX5_isQuarter 1 (some .boolean) 13 0 0 G [.int x] h (fun r h2 => r = zb (inN x 20) ∧ h = h2) := by
  refine con_of hl RX5 rfl (by decide +kernel) [(0, .int x)] rfl (Nat.le_of_ble_eq_true rfl) ?_
  intro zp ze zs zm zargs zbelow zmeth zc C hr hin Q hQ
  refine v_iload_n C 0 rfl dX5_isQuarter_0 rfl ?_
  refine v_iconst (v := 0) C dX5_isQuarter_1 (by decide) ?_
  refine v_bipush (v := 19) C dX5_isQuarter_2 (by decide) ?_
  refine v_callS (rest := []) C (c_X5_isIn l hl G x 0 19 h) S_X5_89 rfl rfl (Nat.le_of_ble_eq_true rfl) ⟨Nat.le_of_ble_eq_true rfl, Nat.le_of_ble_eq_true rfl⟩ ⟨Nat.le_of_ble_eq_true rfl, Nat.le_of_ble_eq_true rfl⟩ dX5_isQuarter_4 (fun i1 h1 q1 => ?_)
  obtain ⟨e1, rfl⟩ := q1
  rw [zb_congr (wth_19 x)] at e1; subst e1
  exact v_iret C hQ hr (zb_nar _) (Nat.le_of_ble_eq_true rfl) (Nat.le_of_ble_eq_true rfl) dX5_isQuarter_7 ⟨rfl, rfl⟩
set_option maxHeartbeats 4000000 in
set_option maxRecDepth 100000 in
theorem c_X5_isAccount (l : Launch) (hl : l.stackTraces = false) (G : zG) (x : Int32) (h : zH)  : zMet eI l yX5_isAccount cX5_isAccount 1 (some .boolean) 13 0 0 G [.int x] h (fun r h2 => r = zb (inN x 6) ∧ h = h2) := by
  refine con_of hl RX5 rfl (by decide +kernel) [(0, .int x)] rfl (Nat.le_of_ble_eq_true rfl) ?_
  intro zp ze zs zm zargs zbelow zmeth zc C hr hin Q hQ
  refine v_iload_n C 0 rfl dX5_isAccount_0 rfl ?_
  refine v_iconst (v := 0) C dX5_isAccount_1 (by decide) ?_
  refine v_iconst (v := 5) C dX5_isAccount_2 (by decide) ?_
  refine v_callS (rest := []) C (c_X5_isIn l hl G x 0 5 h) S_X5_89 rfl rfl (Nat.le_of_ble_eq_true rfl) ⟨Nat.le_of_ble_eq_true rfl, Nat.le_of_ble_eq_true rfl⟩ ⟨Nat.le_of_ble_eq_true rfl, Nat.le_of_ble_eq_true rfl⟩ dX5_isAccount_3 (fun i1 h1 q1 => ?_)
  obtain ⟨e1, rfl⟩ := q1
  rw [zb_congr (wth_5 x)] at e1; subst e1
  exact v_iret C hQ hr (zb_nar _) (Nat.le_of_ble_eq_true rfl) (Nat.le_of_ble_eq_true rfl) dX5_isAccount_6 ⟨rfl, rfl⟩
set_option maxHeartbeats 4000000 in
set_option maxRecDepth 100000 in
theorem c_X5_isTerm (l : Launch) (hl : l.stackTraces = false) (G : zG) (m : Nat) (ad : Nat → Nat) (ns : Nat → Nat) (na : Nat → Nat → Nat) (ia : Nat → Nat → Int32) (la : Nat → Nat → Int64) (h0 : zH) (x : Int32) (h : zH) (hm : MR G h0 h m ad ns na ia la) (hn : ns 7 ≤ 10) : zMet eI l yX5_isTerm cX5_isTerm 2 (some .boolean) 13 0 0 G [.ref m, .int x] h (fun r h2 => r = zb (inN x (ns 7)) ∧ h = h2) := by
  refine con_of hl RX5 rfl (by decide +kernel) [(0, .ref m), (1, .int x)] rfl (Nat.le_of_ble_eq_true rfl) ?_
  intro zp ze zs zm zargs zbelow zmeth zc C hr hin Q hQ
  refine v_iload_n C 1 rfl dX5_isTerm_0 rfl ?_
  refine v_iconst (v := 0) C dX5_isTerm_1 (by decide) ?_
  refine v_aload_n C 0 rfl dX5_isTerm_2 rfl ?_
  refine v_get (v := .int (nI (ns 7))) C F_X5_93 hm.1 rfl dX5_isTerm_3 ?_
  refine v_iconst (v := 1) C dX5_isTerm_6 (by decide) ?_
  refine v_isub C dX5_isTerm_7 (v_eqi (y := ((nI (ns 7)) - 1)) (rfl) ?_)
  refine v_callS (rest := []) C (c_X5_isIn l hl G x 0 ((nI (ns 7)) - 1) h) S_X5_89 rfl rfl (Nat.le_of_ble_eq_true rfl) ⟨Nat.le_of_ble_eq_true rfl, Nat.le_of_ble_eq_true rfl⟩ ⟨Nat.le_of_ble_eq_true rfl, Nat.le_of_ble_eq_true rfl⟩ dX5_isTerm_8 (fun i2 h2 q2 => ?_)
  obtain ⟨e2, rfl⟩ := q2
  rw [zb_congr (wth_m1 x (by omega))] at e2; subst e2
  exact v_iret C hQ hr (zb_nar _) (Nat.le_of_ble_eq_true rfl) (Nat.le_of_ble_eq_true rfl) dX5_isTerm_11 ⟨rfl, rfl⟩
set_option maxHeartbeats 4000000 in
set_option maxRecDepth 100000 in
theorem c_X5_isTest (l : Launch) (hl : l.stackTraces = false) (G : zG) (m : Nat) (ad : Nat → Nat) (ns : Nat → Nat) (na : Nat → Nat → Nat) (ia : Nat → Nat → Int32) (la : Nat → Nat → Int64) (h0 : zH) (x : Int32) (h : zH) (hm : MR G h0 h m ad ns na ia la) (hn : ns 17 ≤ 10) : zMet eI l yX5_isTest cX5_isTest 2 (some .boolean) 13 0 0 G [.ref m, .int x] h (fun r h2 => r = zb (inN x (ns 17)) ∧ h = h2) := by
  refine con_of hl RX5 rfl (by decide +kernel) [(0, .ref m), (1, .int x)] rfl (Nat.le_of_ble_eq_true rfl) ?_
  intro zp ze zs zm zargs zbelow zmeth zc C hr hin Q hQ
  refine v_iload_n C 1 rfl dX5_isTest_0 rfl ?_
  refine v_iconst (v := 0) C dX5_isTest_1 (by decide) ?_
  refine v_aload_n C 0 rfl dX5_isTest_2 rfl ?_
  refine v_get (v := .int (nI (ns 17))) C F_X5_177 hm.1 rfl dX5_isTest_3 ?_
  refine v_iconst (v := 1) C dX5_isTest_6 (by decide) ?_
  refine v_isub C dX5_isTest_7 (v_eqi (y := ((nI (ns 17)) - 1)) (rfl) ?_)
  refine v_callS (rest := []) C (c_X5_isIn l hl G x 0 ((nI (ns 17)) - 1) h) S_X5_89 rfl rfl (Nat.le_of_ble_eq_true rfl) ⟨Nat.le_of_ble_eq_true rfl, Nat.le_of_ble_eq_true rfl⟩ ⟨Nat.le_of_ble_eq_true rfl, Nat.le_of_ble_eq_true rfl⟩ dX5_isTest_8 (fun i2 h2 q2 => ?_)
  obtain ⟨e2, rfl⟩ := q2
  rw [zb_congr (wth_m1 x (by omega))] at e2; subst e2
  exact v_iret C hQ hr (zb_nar _) (Nat.le_of_ble_eq_true rfl) (Nat.le_of_ble_eq_true rfl) dX5_isTest_11 ⟨rfl, rfl⟩
set_option maxHeartbeats 4000000 in
set_option maxRecDepth 100000 in
theorem c_X5_isBasket (l : Launch) (hl : l.stackTraces = false) (G : zG) (m : Nat) (ad : Nat → Nat) (ns : Nat → Nat) (na : Nat → Nat → Nat) (ia : Nat → Nat → Int32) (la : Nat → Nat → Int64) (h0 : zH) (x : Int32) (h : zH) (hm : MR G h0 h m ad ns na ia la) (hn : ns 25 ≤ 10) : zMet eI l yX5_isBasket cX5_isBasket 2 (some .boolean) 13 0 0 G [.ref m, .int x] h (fun r h2 => r = zb (inN x (ns 25)) ∧ h = h2) := by
  refine con_of hl RX5 rfl (by decide +kernel) [(0, .ref m), (1, .int x)] rfl (Nat.le_of_ble_eq_true rfl) ?_
  intro zp ze zs zm zargs zbelow zmeth zc C hr hin Q hQ
  refine v_iload_n C 1 rfl dX5_isBasket_0 rfl ?_
  refine v_iconst (v := 0) C dX5_isBasket_1 (by decide) ?_
  refine v_aload_n C 0 rfl dX5_isBasket_2 rfl ?_
  refine v_get (v := .int (nI (ns 25))) C F_X5_198 hm.1 rfl dX5_isBasket_3 ?_
  refine v_iconst (v := 1) C dX5_isBasket_6 (by decide) ?_
  refine v_isub C dX5_isBasket_7 (v_eqi (y := ((nI (ns 25)) - 1)) (rfl) ?_)
  refine v_callS (rest := []) C (c_X5_isIn l hl G x 0 ((nI (ns 25)) - 1) h) S_X5_89 rfl rfl (Nat.le_of_ble_eq_true rfl) ⟨Nat.le_of_ble_eq_true rfl, Nat.le_of_ble_eq_true rfl⟩ ⟨Nat.le_of_ble_eq_true rfl, Nat.le_of_ble_eq_true rfl⟩ dX5_isBasket_8 (fun i2 h2 q2 => ?_)
  obtain ⟨e2, rfl⟩ := q2
  rw [zb_congr (wth_m1 x (by omega))] at e2; subst e2
  exact v_iret C hQ hr (zb_nar _) (Nat.le_of_ble_eq_true rfl) (Nat.le_of_ble_eq_true rfl) dX5_isBasket_11 ⟨rfl, rfl⟩
set_option maxHeartbeats 4000000 in
set_option maxRecDepth 100000 in
theorem c_X5_thrown (l : Launch) (hl : l.stackTraces = false) (G : zG) (m : Nat) (ad : Nat → Nat) (ns : Nat → Nat) (na : Nat → Nat → Nat) (ia : Nat → Nat → Int32) (la : Nat → Nat → Int64) (h0 : zH)  (h : zH) (hm : MR G h0 h m ad ns na ia la)  : zMet eI l yX5_thrown cX5_thrown 1 (some .int) 12 0 0 G [.ref m] h (fun r h2 => r = nI (ns 0) ∧ h = h2) := by
  refine con_of hl RX5 rfl (by decide +kernel) [(0, .ref m)] rfl (Nat.le_of_ble_eq_true rfl) ?_
  intro zp ze zs zm zargs zbelow zmeth zc C hr hin Q hQ
  refine v_aload_n C 0 rfl dX5_thrown_0 rfl ?_
  refine v_get (v := .int (nI (ns 0))) C F_X5_85 hm.1 rfl dX5_thrown_1 ?_
  exact v_iret C hQ hr rfl (Nat.le_of_ble_eq_true rfl) (Nat.le_of_ble_eq_true rfl) dX5_thrown_4 ⟨rfl, rfl⟩
set_option maxHeartbeats 4000000 in
set_option maxRecDepth 100000 in
theorem c_X5_down (l : Launch) (hl : l.stackTraces = false) (G : zG) (x : Int64) (h : zH)  : zMet eL l yX5_down cX5_down 5 (some .long) 12 0 0 G [.long x, .int 100] h (fun r h2 => r = zfd x ∧ h = h2) := by
  refine con_of hl RX5 rfl (by decide +kernel) [(0, .long x), (2, .int 100)] rfl (Nat.le_of_ble_eq_true rfl) ?_
  intro zp ze zs zm zargs zbelow zmeth zc C hr hin Q hQ
  refine v_lload_n C 0 rfl dX5_down_0 rfl ?_
  refine v_iload_n C 1 rfl dX5_down_1 rfl ?_
  refine v_i2l (v := 100) C dX5_down_2 (by decide) ?_
  refine v_ldiv C dX5_down_3 (by decide) (v_eql (y := (x / 100)) (rfl) ?_)
  refine v_lstore_n C [(3, .long (x / 100)), (0, .long x), (2, .int 100)] rfl (by decide) dX5_down_4 rfl ?_
  refine v_lload_n C 1 rfl dX5_down_5 rfl ?_
  refine v_iload_n C 2 rfl dX5_down_6 rfl ?_
  refine v_i2l (v := 100) C dX5_down_7 (by decide) ?_
  refine v_lrem C dX5_down_8 (by decide) (v_eql (y := (x % 100)) (zfd_rem x) ?_)
  refine v_lconst (v := 0) C dX5_down_9 (by decide) ?_
  refine v_lcmp C dX5_down_10 ?_
  refine v_if_ge (tgt := 20) C dX5_down_11 (by decide) (fun c3 => ?_) (fun c3 => ?_)
  · have c3 := (lgc_ge (x % 100) 0).mp c3
    refine v_lload_n C 0 rfl dX5_down_20 rfl ?_
    exact v_lret C hQ hr (Nat.le_of_ble_eq_true rfl) (Nat.le_of_ble_eq_true rfl) dX5_down_21 ⟨zfd_p c3, rfl⟩
  · have c3 := (lgc_ge_f (x % 100) 0).mp c3
    refine v_lload_n C 0 rfl dX5_down_14 rfl ?_
    refine v_lconst (v := 1) C dX5_down_15 (by decide) ?_
    refine v_lsub C dX5_down_16 (v_eql (y := (x / 100 - 1)) (rfl) ?_)
    refine v_goto (tgt := 21) C dX5_down_17 (by decide) ?_
    exact v_lret C hQ hr (Nat.le_of_ble_eq_true rfl) (Nat.le_of_ble_eq_true rfl) dX5_down_21 ⟨zfd_m c3, rfl⟩

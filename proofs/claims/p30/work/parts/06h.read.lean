/-! reads of the class over its state -/
theorem i2l_lt {a b : Int32} : a.toInt64 < b.toInt64 ↔ a < b := by rw [i64_lt, i32_lt, Int32.toInt_toInt64, Int32.toInt_toInt64]
theorem qI_41 (q : Nat) (h : q < 2 ^ 29) : nI q - 4 + 1 = qI (q + 0) := by
  have e4 : (4 : Int32) = nI 4 := by decide
  rw [e4, ← Int32.toInt_inj, Int32.toInt_add, pk_sub_toInt (b := 4) (by omega) (by decide), qI_toInt (by omega), show (1 : Int32).toInt = 1 from rfl]
  rw [Int.bmod_eq_of_le (by omega) (by omega)]; omega
set_option maxHeartbeats 4000000 in
set_option maxRecDepth 100000 in
theorem c_X4_limitIn (l : Launch) (hl : l.stackTraces = false) (G : zG) (a rl q : Nat) (f : Nat → Int32) (lm : Nat → Int32) (w0 w1 w3 w4 w5 w6 w7 w8 : Value) (h : zH) (ha : h a = some (.inr (5, [w0, w1, .ref rl, w3, w4, w5, w6, w7, w8]))) (hrl : h rl = some (.inl (gc G 0, 20, .inl f))) (hq : q < 20) (hlm : ∀ z, z < 20 → f z = lm z) : zMet eI l yX4_limitIn cX4_limitIn 3 (some .int) 12 0 0 G [.ref a, .int (nI q)] h (fun r h2 => r = lmA lm q ∧ h = h2) := by
  refine con_of hl RX4 rfl (by decide +kernel) [(0, .ref a), (1, .int (nI q))] rfl (Nat.le_of_ble_eq_true rfl) ?_
  intro zp ze zs zm zargs zbelow zmeth zc C hr hin Q hQ
  refine v_iload_n C 1 rfl dX4_limitIn_0 rfl ?_
  refine v_eqi (gI_s q) ?_
  refine v_istore_n C [(2, .int (gI (q + 1))), (0, .ref a), (1, .int (nI q))] rfl (by decide) dX4_limitIn_1 rfl ?_
  have L1 : ∀ (d : Nat) (c : Nat), (c ≤ q + 1) → (lmA lm q = lmB lm c) → (c + 1 ≤ d) → V zp l ze (rmm 12 0 0) zs zm zargs zbelow zmeth zc G 3 Q h (0) (0) 2 [(2, .int (gI c)), (0, .ref a), (1, .int (nI q))] [] := by
    intro d
    induction d with
    | zero =>
      intro c hc hlz hd
      exact absurd hd (by omega)
    | succ d ih1 =>
      intro c hc hlz hd
      refine v_iload_n C 0 rfl dX4_limitIn_2 rfl ?_
      refine v_if_lt (tgt := 29) C dX4_limitIn_3 (by decide) (fun c2 => ?_) (fun c2 => ?_)
      · have c2 := (gI_neg (c := c) (by omega)).mp c2
        refine v_iconst (v := (-1)) C dX4_limitIn_29 (by decide) ?_
        exact v_iret C hQ hr rfl (Nat.le_of_ble_eq_true rfl) (Nat.le_of_ble_eq_true rfl) dX4_limitIn_30 ⟨(hlz.trans (by have hz : c = 0 := (by omega); rw [hz]; rfl)).symm, rfl⟩
      · have c2 := (not_congr (gI_neg (c := c) (by omega))).mp c2
        obtain ⟨u, rfl⟩ : ∃ u, c = u + 1 := ⟨c - 1, by omega⟩
        rw [← gI_s u]
        refine v_aload_n C 1 rfl dX4_limitIn_6 rfl ?_
        refine v_get (v := .ref rl) C F_X4_292 ha rfl dX4_limitIn_7 ?_
        refine v_iload_n C 0 rfl dX4_limitIn_10 rfl ?_
        refine v_iald C hrl (vpin (show u < 20 by omega) (by decide)) dX4_limitIn_11 (v_eqi (y := (lm u)) ((congrArg f (nI_clamp (show u < 2 ^ 31 by omega))).trans (hlm u (by omega))) ?_)
        refine v_iconst (v := (-1)) C dX4_limitIn_12 (by decide) ?_
        refine v_icmp_eq (tgt := 23) C dX4_limitIn_13 (by decide) (fun c3 => ?_) (fun c3 => ?_)
        · refine v_iinc C 0 [(2, .int (gI u)), (0, .ref a), (1, .int (nI q))] rfl (gI_dec u) rfl (by decide) dX4_limitIn_23 ?_
          refine v_goto (tgt := 2) C dX4_limitIn_26 (by decide) ?_
          refine v_lvp [0, 1, 2] rfl ?_
          exact ih1 u (by omega) (hlz.trans (if_pos c3)) (by omega)
        · refine v_aload_n C 1 rfl dX4_limitIn_16 rfl ?_
          refine v_get (v := .ref rl) C F_X4_292 ha rfl dX4_limitIn_17 ?_
          refine v_iload_n C 0 rfl dX4_limitIn_20 rfl ?_
          refine v_iald C hrl (vpin (show u < 20 by omega) (by decide)) dX4_limitIn_21 (v_eqi (y := (lm u)) ((congrArg f (nI_clamp (show u < 2 ^ 31 by omega))).trans (hlm u (by omega))) ?_)
          exact v_iret C hQ hr rfl (Nat.le_of_ble_eq_true rfl) (Nat.le_of_ble_eq_true rfl) dX4_limitIn_22 ⟨(hlz.trans (if_neg c3)).symm, rfl⟩
  refine v_lvp [0, 1, 2] rfl ?_
  exact L1 (q + 2) (q + 1) (Nat.le_refl _) (lmA_B lm q) (by omega)
set_option maxHeartbeats 4000000 in
set_option maxRecDepth 100000 in
theorem c_X4_curesFrom (l : Launch) (hl : l.stackTraces = false) (G : zG) (rc q i : Nat) (f c : Nat → Int32) (h : zH) (hrc : h rc = some (.inl (gc G 0, 20, .inl f))) (hcc : ∀ z, z < 20 → f z = c z) (hq : q < 20) (hi4 : i < 4) : zMet eI l yX4_curesFrom cX4_curesFrom 4 (some .int) 13 0 0 G [.ref rc, .int (qI (q + i))] h (fun r h2 => r = nI (cuF c q i 4) ∧ h = h2) := by
  refine con_of hl RX4 rfl (by decide +kernel) [(0, .ref rc), (1, .int (qI (q + i)))] rfl (Nat.le_of_ble_eq_true rfl) ?_
  intro zp ze zs zm zargs zbelow zmeth zc C hr hin Q hQ
  refine v_iconst (v := (nI 0)) C dX4_curesFrom_0 (by decide) ?_
  refine v_istore_n C [(2, .int (nI 0)), (0, .ref rc), (1, .int (qI (q + i)))] rfl (by decide) dX4_curesFrom_1 rfl ?_
  refine v_iload_n C 2 rfl dX4_curesFrom_2 rfl ?_
  refine v_istore_n C [(3, .int (qI (q + i))), (2, .int (nI 0)), (0, .ref rc), (1, .int (qI (q + i)))] rfl (by decide) dX4_curesFrom_3 rfl ?_
  have L1 : ∀ (d : Nat) (n : Nat), (n ≤ 4) → (5 ≤ n + d) → V zp l ze (rmm 13 0 0) zs zm zargs zbelow zmeth zc G 4 Q h (0) (0) 4 [(2, .int (nI (cuF c q i n))), (3, .int (qI (q + i + n))), (0, .ref rc), (1, .int (qI (q + i)))] [] := by
    intro d
    induction d with
    | zero =>
      intro n hn hd
      exact absurd hd (by omega)
    | succ d ih1 =>
      intro n hn hd
      refine v_iload_n C 1 rfl dX4_curesFrom_4 rfl ?_
      refine v_iload_n C 3 rfl dX4_curesFrom_5 rfl ?_
      refine v_iconst (v := 4) C dX4_curesFrom_6 (by decide) ?_
      refine v_iadd C dX4_curesFrom_7 (v_eqi (y := (qI (q + i + 4))) (qI_4 (by omega)) ?_)
      refine v_icmp_ge (tgt := 33) C dX4_curesFrom_8 (by decide) (fun c3 => ?_) (fun c3 => ?_)
      · have c3 := (qI_ge (k := q + i + n) (q := q + i + 4) (by omega) (by omega)).mp c3
        refine v_iload_n C 0 rfl dX4_curesFrom_33 rfl ?_
        exact v_iret C hQ hr rfl (Nat.le_of_ble_eq_true rfl) (Nat.le_of_ble_eq_true rfl) dX4_curesFrom_34 ⟨(by have hz : n = 4 := (by omega); rw [hz]), rfl⟩
      · have c3 := (not_congr (qI_ge (k := q + i + n) (q := q + i + 4) (by omega) (by omega))).mp c3
        refine v_iload_n C 1 rfl dX4_curesFrom_11 rfl ?_
        refine v_callS (rest := []) C (c_X4_isQuarter l hl G (qI (q + i + n)) h) S_X4_34 rfl rfl (Nat.le_of_ble_eq_true rfl) ⟨Nat.le_of_ble_eq_true rfl, Nat.le_of_ble_eq_true rfl⟩ ⟨Nat.le_of_ble_eq_true rfl, Nat.le_of_ble_eq_true rfl⟩ dX4_curesFrom_12 (fun i4 h4 q4 => ?_)
        obtain ⟨e4, rfl⟩ := q4
        by_cases c4 : inN (qI (q + i + n)) 20
        · rw [zb_t c4] at e4; subst e4
          have cQ := c4
          have hq3 := (qI_in (by omega)).mp c4
          refine v_if_eq (tgt := 27) C dX4_curesFrom_15 (by decide) (fun c5 => absurd c5 (by decide)) (fun c5 => ?_)
          rw [qI_nat hq3.1]
          refine v_aload_n C 2 rfl dX4_curesFrom_18 rfl ?_
          refine v_iload_n C 1 rfl dX4_curesFrom_19 rfl ?_
          refine v_iald C hrc (vpin (show (q + i + n - 3) < 20 by omega) (by decide)) dX4_curesFrom_20 (v_eqi (y := (c (q + i + n - 3))) ((congrArg f (nI_clamp (show (q + i + n - 3) < 2 ^ 31 by omega))).trans (hcc (q + i + n - 3) (by omega))) ?_)
          refine v_if_eq (tgt := 27) C dX4_curesFrom_21 (by decide) (fun c6 => ?_) (fun c6 => ?_)
          · have cL := c6
            rw [← qI_nat hq3.1]
            refine v_iinc C 1 [(3, .int (qI (q + i + n + 1))), (2, .int (nI (cuF c q i n))), (0, .ref rc), (1, .int (qI (q + i)))] rfl (qI_s (by omega)) rfl (by decide) dX4_curesFrom_27 ?_
            refine v_goto (tgt := 4) C dX4_curesFrom_30 (by decide) ?_
            refine v_lvp [1, 0, 2, 3] rfl ?_
            rw [show cuF c q i n = cuF c q i (n + 1) from cuF_st (fun z => z.2.2 cL)]
            exact ih1 (n + 1) (by omega) (by omega)
          · have cL := c6
            refine v_iinc C 0 [(2, .int (nI ((cuF c q i n) + 1))), (3, .int (nI (q + i + n - 3))), (0, .ref rc), (1, .int (qI (q + i)))] rfl (nI_inc (cuF c q i n) 1 (by decide)) rfl (by decide) dX4_curesFrom_24 ?_
            rw [← qI_nat hq3.1]
            refine v_iinc C 1 [(3, .int (qI (q + i + n + 1))), (2, .int (nI ((cuF c q i n) + 1))), (0, .ref rc), (1, .int (qI (q + i)))] rfl (qI_s (by omega)) rfl (by decide) dX4_curesFrom_27 ?_
            refine v_goto (tgt := 4) C dX4_curesFrom_30 (by decide) ?_
            refine v_lvp [1, 0, 2, 3] rfl ?_
            rw [cuF_up ⟨hq3.1, hq3.2, cL⟩]
            exact ih1 (n + 1) (by omega) (by omega)
        · rw [zb_f c4] at e4; subst e4
          have cQ := c4
          have hq3 := (not_congr (qI_in (by omega))).mp c4
          refine v_if_eq (tgt := 27) C dX4_curesFrom_15 (by decide) (fun c10 => ?_) (fun c10 => absurd c10 (by decide))
          refine v_iinc C 1 [(3, .int (qI (q + i + n + 1))), (2, .int (nI (cuF c q i n))), (0, .ref rc), (1, .int (qI (q + i)))] rfl (qI_s (by omega)) rfl (by decide) dX4_curesFrom_27 ?_
          refine v_goto (tgt := 4) C dX4_curesFrom_30 (by decide) ?_
          refine v_lvp [1, 0, 2, 3] rfl ?_
          rw [show cuF c q i n = cuF c q i (n + 1) from cuF_st (fun z => hq3 ⟨z.1, z.2.1⟩)]
          exact ih1 (n + 1) (by omega) (by omega)
  refine v_lvp [1, 0, 2, 3] rfl ?_
  exact L1 5 0 (by omega) (by omega)
theorem cuM_mono {c : Nat → Int32} {q i : Nat} (hi : i < 4) : cuF c q i 4 ≤ cuM c q 4 := by
  have : i = 0 ∨ i = 1 ∨ i = 2 ∨ i = 3 := by omega
  show _ ≤ max (max (max (max 0 (cuF c q 0 4)) (cuF c q 1 4)) (cuF c q 2 4)) (cuF c q 3 4)
  rcases this with rfl | rfl | rfl | rfl <;> omega
set_option maxHeartbeats 4000000 in
set_option maxRecDepth 100000 in
theorem c_X4_hasCureLeft (l : Launch) (hl : l.stackTraces = false) (G : zG) (rc q : Nat) (f c : Nat → Int32) (h : zH) (hrc : h rc = some (.inl (gc G 0, 20, .inl f))) (hcc : ∀ z, z < 20 → f z = c z) (hq : q < 20) : zMet eI l yX4_hasCureLeft cX4_hasCureLeft 3 (some .boolean) 14 0 0 G [.ref rc, .int (nI q)] h (fun r h2 => r = zb (cuM c q 4 < 2) ∧ h = h2) := by
  refine con_of hl RX4 rfl (by decide +kernel) [(0, .ref rc), (1, .int (nI q))] rfl (Nat.le_of_ble_eq_true rfl) ?_
  intro zp ze zs zm zargs zbelow zmeth zc C hr hin Q hQ
  refine v_iload_n C 1 rfl dX4_hasCureLeft_0 rfl ?_
  refine v_iconst (v := 4) C dX4_hasCureLeft_1 (by decide) ?_
  refine v_isub C dX4_hasCureLeft_2 (v_eqi (y := (nI q - 4)) (rfl) ?_)
  refine v_iconst (v := 1) C dX4_hasCureLeft_3 (by decide) ?_
  refine v_iadd C dX4_hasCureLeft_4 (v_eqi (y := (qI (q + 0))) (qI_41 q (by omega)) ?_)
  refine v_istore_n C [(2, .int (qI (q + 0))), (0, .ref rc), (1, .int (nI q))] rfl (by decide) dX4_hasCureLeft_5 rfl ?_
  have L3 : ∀ (d : Nat) (i : Nat), (i ≤ 4) → (cuM c q i < 2) → (5 ≤ i + d) → V zp l ze (rmm 14 0 0) zs zm zargs zbelow zmeth zc G 3 Q h (0) (0) 6 [(2, .int (qI (q + i))), (0, .ref rc), (1, .int (nI q))] [] := by
    intro d
    induction d with
    | zero =>
      intro i hi hm hd
      exact absurd hd (by omega)
    | succ d ih3 =>
      intro i hi hm hd
      refine v_iload_n C 0 rfl dX4_hasCureLeft_6 rfl ?_
      refine v_iload_n C 2 rfl dX4_hasCureLeft_7 rfl ?_
      refine v_icmp_gt (tgt := 28) C dX4_hasCureLeft_8 (by decide) (fun c4 => ?_) (fun c4 => ?_)
      · have c4 := (qI_gt (k := q + i) (q := q) (by omega) (by omega)).mp c4
        refine v_iconst (v := 1) C dX4_hasCureLeft_28 (by decide) ?_
        exact v_iret C hQ hr rfl (Nat.le_of_ble_eq_true rfl) (Nat.le_of_ble_eq_true rfl) dX4_hasCureLeft_29 ⟨(zb_t (by have hz : i = 4 := (by omega); rw [← hz]; exact hm)).symm, rfl⟩
      · have c4 := (not_congr (qI_gt (k := q + i) (q := q) (by omega) (by omega))).mp c4
        refine v_aload_n C 1 rfl dX4_hasCureLeft_11 rfl ?_
        refine v_iload_n C 0 rfl dX4_hasCureLeft_12 rfl ?_
        refine v_callS (rest := []) C (c_X4_curesFrom l hl G rc q i f c h hrc hcc hq (by omega)) S_X4_351 rfl rfl (Nat.le_of_ble_eq_true rfl) ⟨Nat.le_of_ble_eq_true rfl, Nat.le_of_ble_eq_true rfl⟩ ⟨Nat.le_of_ble_eq_true rfl, Nat.le_of_ble_eq_true rfl⟩ dX4_hasCureLeft_13 (fun i5 h5 q5 => ?_)
        obtain ⟨e5, rfl⟩ := q5; subst e5
        have hz1 := cuF_le c q i 4
        refine v_iconst (v := 2) C dX4_hasCureLeft_16 (by decide) ?_
        refine v_icmp_lt (tgt := 22) C dX4_hasCureLeft_17 (by decide) (fun c6 => ?_) (fun c6 => ?_)
        · have c6 := (nk_lt (a := (cuF c q i 4)) 2 (by decide) (by omega) (by decide)).mp c6
          refine v_iinc C 0 [(2, .int (qI (q + i + 1))), (0, .ref rc), (1, .int (nI q))] rfl (qI_s (by omega)) rfl (by decide) dX4_hasCureLeft_22 ?_
          refine v_goto (tgt := 6) C dX4_hasCureLeft_25 (by decide) ?_
          refine v_lvp [0, 1, 2] rfl ?_
          exact ih3 (i + 1) (by omega) (show max _ _ < 2 by omega) (by omega)
        · have c6 := (nk_lt_f (a := (cuF c q i 4)) 2 (by decide) (by omega) (by decide)).mp c6
          refine v_iconst (v := 0) C dX4_hasCureLeft_20 (by decide) ?_
          exact v_iret C hQ hr rfl (Nat.le_of_ble_eq_true rfl) (Nat.le_of_ble_eq_true rfl) dX4_hasCureLeft_21 ⟨(zb_f (by have := cuM_mono (c := c) (q := q) (show i < 4 by omega); omega)).symm, rfl⟩
  refine v_lvp [0, 1, 2] rfl ?_
  exact L3 5 0 (by omega) (show (0 : Nat) < 2 by decide) (by omega)
set_option maxHeartbeats 4000000 in
set_option maxRecDepth 100000 in
theorem c_X4_isBelowWake (l : Launch) (hl : l.stackTraces = false) (G : zG) (x j q : Nat) (g : XGh) (s : ZS) (h : zH) (hi : XI G h g x s) (hw : WFs s) (hj : j < rN s) (hq : q < 20) : zMet eI l yX4_isBelowWake cX4_isBelowWake 4 (some .boolean) 13 0 0 G [.ref x, .ref (qA g 6 j), .int (nI q)] h (fun r h2 => r = zb (dozes s j q) ∧ h = h2) := by
  refine con_of hl RX4 rfl (by decide +kernel) [(0, .ref x), (1, .ref (qA g 6 j)), (2, .int (nI q))] rfl (Nat.le_of_ble_eq_true rfl) ?_
  intro zp ze zs zm zargs zbelow zmeth zc C hr hin Q hQ
  obtain ⟨⟨hO, hA, ⟨hL0, hL1, hL2, hL3⟩, hS, hN, hT, hR, hB⟩, hV⟩ := id hi
  obtain ⟨r6, r7, r8, r9, t6, ⟨f7, t7, q7⟩, ⟨f8, t8, q8⟩, f9, t9, q9⟩ := hR j hj
  obtain ⟨hwT, hwB, hwW, hwL⟩ := hw.2.2.2.2.1.2.1 j hj
  refine v_aload_n C 1 rfl dX4_isBelowWake_0 rfl ?_
  refine v_get (v := .int (rW s j)) C F_X4_303 t6 rfl dX4_isBelowWake_1 ?_
  refine v_istore_n C [(3, .int (rW s j)), (0, .ref x), (1, .ref (qA g 6 j)), (2, .int (nI q))] rfl (by decide) dX4_isBelowWake_4 rfl ?_
  refine v_iload_n C 0 rfl dX4_isBelowWake_5 rfl ?_
  refine v_callS (rest := []) C (c_X4_isAccount l hl G (rW s j) h) S_X4_30 rfl rfl (Nat.le_of_ble_eq_true rfl) ⟨Nat.le_of_ble_eq_true rfl, Nat.le_of_ble_eq_true rfl⟩ ⟨Nat.le_of_ble_eq_true rfl, Nat.le_of_ble_eq_true rfl⟩ dX4_isBelowWake_6 (fun i1 h1 q1 => ?_)
  obtain ⟨e1, rfl⟩ := q1
  by_cases c1 : inN (rW s j) 6
  · rw [zb_t c1] at e1; subst e1
    obtain ⟨wj, hwj, ewj⟩ := inN.nat c1 (by decide)
    rw [ewj]
    obtain ⟨rA, fA, tA, qA2⟩ := hA wj hwj
    refine v_if_eq (tgt := 33) C dX4_isBelowWake_9 (by decide) (fun c2 => absurd c2 (by decide)) (fun c2 => ?_)
    refine v_aload_n C 1 rfl dX4_isBelowWake_12 rfl ?_
    refine v_get (v := .ref (qA g 1 0)) C F_X4_11 hO.1 rfl dX4_isBelowWake_13 ?_
    refine v_iload_n C 0 rfl dX4_isBelowWake_16 rfl ?_
    obtain ⟨fo, to, qo⟩ := hO.2.2.2
    refine v_aald C 7 rfl rfl to (vpin (show wj < 6 by omega) (by decide)) dX4_isBelowWake_17 ?_
    rw [nI_clamp (show wj < 2 ^ 31 by omega), qo wj (by omega)]
    refine v_iload_n C 3 rfl dX4_isBelowWake_18 rfl ?_
    refine v_lald C tA (vpin (show q < 20 by omega) (by decide)) dX4_isBelowWake_19 (v_eql (y := (oAL s wj q)) ((congrArg fA (nI_clamp (show q < 2 ^ 31 by omega))).trans (qA2 q (by omega))) ?_)
    refine v_aload_n C 2 rfl dX4_isBelowWake_20 rfl ?_
    refine v_get (v := .int (rE s j)) C F_X4_306 t6 rfl dX4_isBelowWake_21 ?_
    refine v_i2l (v := ((rE s j) : Int32).toInt64) C dX4_isBelowWake_24 rfl ?_
    refine v_lcmp C dX4_isBelowWake_25 ?_
    refine v_if_ge (tgt := 33) C dX4_isBelowWake_26 (by decide) (fun c3 => ?_) (fun c3 => ?_)
    · have c3 := (lgc_ge (oAL s wj q) (Int32.toInt64 (rE s j))).mp c3
      refine v_iconst (v := 0) C dX4_isBelowWake_33 (by decide) ?_
      have ecl : cl (rW s j) = wj := by rw [ewj]; exact cl_nI (by omega)
      have enn : ¬ rW s j = -1 := fun z => by rw [z] at c1; exact absurd (inN_iff.mp c1).1 (by decide)
      have eww : oAL s wj q < Int32.toInt64 (rE s j) ↔ oA s (cl (rW s j)) q < rE s j := by rw [ecl]; exact i2l_lt
      exact v_iret C hQ hr rfl (Nat.le_of_ble_eq_true rfl) (Nat.le_of_ble_eq_true rfl) dX4_isBelowWake_34 ⟨(zb_f (fun z => Int64.not_le.mpr (eww.mpr z.2) c3)).symm, rfl⟩
    · have c3 := (lgc_ge_f (oAL s wj q) (Int32.toInt64 (rE s j))).mp c3
      refine v_iconst (v := 1) C dX4_isBelowWake_29 (by decide) ?_
      refine v_goto (tgt := 34) C dX4_isBelowWake_30 (by decide) ?_
      have ecl : cl (rW s j) = wj := by rw [ewj]; exact cl_nI (by omega)
      have enn : ¬ rW s j = -1 := fun z => by rw [z] at c1; exact absurd (inN_iff.mp c1).1 (by decide)
      have eww : oAL s wj q < Int32.toInt64 (rE s j) ↔ oA s (cl (rW s j)) q < rE s j := by rw [ecl]; exact i2l_lt
      exact v_iret C hQ hr rfl (Nat.le_of_ble_eq_true rfl) (Nat.le_of_ble_eq_true rfl) dX4_isBelowWake_34 ⟨(zb_t ⟨enn, eww.mp (Int64.not_le.mp c3)⟩).symm, rfl⟩
  · rw [zb_f c1] at e1; subst e1
    refine v_if_eq (tgt := 33) C dX4_isBelowWake_9 (by decide) (fun c4 => ?_) (fun c4 => absurd c4 (by decide))
    refine v_iconst (v := 0) C dX4_isBelowWake_33 (by decide) ?_
    exact v_iret C hQ hr rfl (Nat.le_of_ble_eq_true rfl) (Nat.le_of_ble_eq_true rfl) dX4_isBelowWake_34 ⟨(zb_f (fun z => hwW.elim z.1 c1)).symm, rfl⟩
set_option maxHeartbeats 4000000 in
set_option maxRecDepth 100000 in
theorem c_X4_stateIn (l : Launch) (hl : l.stackTraces = false) (G : zG) (x j q : Nat) (g : XGh) (s : ZS) (h : zH) (hi : XI G h g x s) (hw : WFs s) (hj : j < rN s) (hq : q < 20) : zMet eI l yX4_stateIn cX4_stateIn 8 (some .int) 14 0 0 G [.ref x, .ref (qA g 6 j), .int (nI q)] h (fun r h2 => r = nI (vState s j q) ∧ h = h2) := by
  refine con_of hl RX4 rfl (by decide +kernel) [(0, .ref x), (1, .ref (qA g 6 j)), (2, .int (nI q))] rfl (Nat.le_of_ble_eq_true rfl) ?_
  intro zp ze zs zm zargs zbelow zmeth zc C hr hin Q hQ
  obtain ⟨⟨hO, hA, ⟨hL0, hL1, hL2, hL3⟩, hS, hN, hT, hR, hB⟩, hV⟩ := id hi
  obtain ⟨r6, r7, r8, r9, t6, ⟨f7, t7, q7⟩, ⟨f8, t8, q8⟩, f9, t9, q9⟩ := hR j hj
  obtain ⟨hwT, hwB, hwW, hwL⟩ := hw.2.2.2.2.1.2.1 j hj
  obtain ⟨r3T, r4T, r5T, t3T, -, -⟩ := hT (rT s j) hwT
  obtain ⟨vT, t5T, qvT⟩ := hV (rT s j) hwT
  obtain ⟨r3B, r4B, r5B, t3B, -, -⟩ := hT (rB s j) hwB
  obtain ⟨vB, t5B, qvB⟩ := hV (rB s j) hwB
  refine v_aload_n C 1 rfl dX4_stateIn_0 rfl ?_
  refine v_iload_n C 2 rfl dX4_stateIn_1 rfl ?_
  refine v_callS (rest := []) C (c_X4_limitIn l hl G (qA g 6 j) (qA g 7 j) q f7 (rL s j) _ _ _ _ _ _ _ _ h t6 t7 (by omega) q7) S_X4_331 rfl rfl (Nat.le_of_ble_eq_true rfl) ⟨Nat.le_of_ble_eq_true rfl, Nat.le_of_ble_eq_true rfl⟩ ⟨Nat.le_of_ble_eq_true rfl, Nat.le_of_ble_eq_true rfl⟩ dX4_stateIn_2 (fun i1 h1 q1 => ?_)
  obtain ⟨e1, rfl⟩ := q1; subst e1
  refine v_istore_n C [(3, .int (lmA (rL s j) q)), (0, .ref x), (1, .ref (qA g 6 j)), (2, .int (nI q))] rfl (by decide) dX4_stateIn_5 rfl ?_
  refine v_iload_n C 0 rfl dX4_stateIn_6 rfl ?_
  refine v_iconst (v := (-1)) C dX4_stateIn_7 (by decide) ?_
  refine v_icmp_eq (tgt := 20) C dX4_stateIn_8 (by decide) (fun c2 => ?_) (fun c2 => ?_)
  · refine v_iconst (v := 0) C dX4_stateIn_20 (by decide) ?_
    exact v_iret C hQ hr rfl (Nat.le_of_ble_eq_true rfl) (Nat.le_of_ble_eq_true rfl) dX4_stateIn_21 ⟨congrArg nI (if_pos (Or.inr c2)).symm, rfl⟩
  · refine v_aload_n C 1 rfl dX4_stateIn_11 rfl ?_
    refine v_aload_n C 2 rfl dX4_stateIn_12 rfl ?_
    refine v_iload_n C 3 rfl dX4_stateIn_13 rfl ?_
    refine v_callV (rest := []) C (c_X4_isBelowWake l hl G x j q g s h hi hw hj (by omega)) K_X4_343 hO.1 rfl rfl (Nat.le_of_ble_eq_true rfl) ⟨Nat.le_of_ble_eq_true rfl, Nat.le_of_ble_eq_true rfl⟩ ⟨Nat.le_of_ble_eq_true rfl, Nat.le_of_ble_eq_true rfl⟩ dX4_stateIn_14 (fun i3 h3 q3 => ?_)
    obtain ⟨e3, rfl⟩ := q3
    by_cases c3 : dozes s j q
    · rw [zb_t c3] at e3; subst e3
      refine v_if_eq (tgt := 22) C dX4_stateIn_17 (by decide) (fun c4 => absurd c4 (by decide)) (fun c4 => ?_)
      refine v_iconst (v := 0) C dX4_stateIn_20 (by decide) ?_
      exact v_iret C hQ hr rfl (Nat.le_of_ble_eq_true rfl) (Nat.le_of_ble_eq_true rfl) dX4_stateIn_21 ⟨congrArg nI (if_pos (Or.inl c3)).symm, rfl⟩
    · rw [zb_f c3] at e3; subst e3
      refine v_if_eq (tgt := 22) C dX4_stateIn_17 (by decide) (fun c5 => ?_) (fun c5 => absurd c5 (by decide))
      refine v_aload_n C 2 rfl dX4_stateIn_22 rfl ?_
      refine v_get (v := .ref (qA g 3 (rT s j))) C F_X4_340 t6 rfl dX4_stateIn_23 ?_
      refine v_get (v := .ref (qA g 5 (rT s j))) C F_X4_113 t3T rfl dX4_stateIn_26 ?_
      refine v_iload_n C 3 rfl dX4_stateIn_29 rfl ?_
      refine v_lald C t5T (vpin (show q < 20 by omega) (by decide)) dX4_stateIn_30 (v_eql (y := (oV s (rT s j) q)) ((congrArg vT (nI_clamp (show q < 2 ^ 31 by omega))).trans (qvT q (by omega))) ?_)
      refine v_lstore C [(4, .long (oV s (rT s j) q)), (3, .int (lmA (rL s j) q)), (0, .ref x), (1, .ref (qA g 6 j)), (2, .int (nI q))] rfl (by decide) dX4_stateIn_31 ?_
      refine v_aload_n C 3 rfl dX4_stateIn_33 rfl ?_
      refine v_get (v := .ref (qA g 3 (rB s j))) C F_X4_334 t6 rfl dX4_stateIn_34 ?_
      refine v_get (v := .ref (qA g 5 (rB s j))) C F_X4_113 t3B rfl dX4_stateIn_37 ?_
      refine v_iload_n C 4 rfl dX4_stateIn_40 rfl ?_
      refine v_lald C t5B (vpin (show q < 20 by omega) (by decide)) dX4_stateIn_41 (v_eql (y := (oV s (rB s j) q)) ((congrArg vB (nI_clamp (show q < 2 ^ 31 by omega))).trans (qvB q (by omega))) ?_)
      refine v_lstore C [(6, .long (oV s (rB s j) q)), (4, .long (oV s (rT s j) q)), (3, .int (lmA (rL s j) q)), (0, .ref x), (1, .ref (qA g 6 j)), (2, .int (nI q))] rfl (by decide) dX4_stateIn_42 ?_
      refine v_lload C 1 rfl dX4_stateIn_44 ?_
      refine v_lload C 0 rfl dX4_stateIn_46 ?_
      refine v_iload_n C 2 rfl dX4_stateIn_48 rfl ?_
      refine v_callS (rest := []) C (c_X4_isKept l hl G (oV s (rT s j) q) (oV s (rB s j) q) (lmA (rL s j) q) h) S_X4_347 rfl rfl (Nat.le_of_ble_eq_true rfl) ⟨Nat.le_of_ble_eq_true rfl, Nat.le_of_ble_eq_true rfl⟩ ⟨Nat.le_of_ble_eq_true rfl, Nat.le_of_ble_eq_true rfl⟩ dX4_stateIn_49 (fun i6 h6 q6 => ?_)
      obtain ⟨e6, rfl⟩ := q6
      by_cases c6 : 0 < (oV s (rB s j) q) ∧ 100 * (oV s (rT s j) q) ≤ Int32.toInt64 (lmA (rL s j) q) * (oV s (rB s j) q)
      · rw [zb_t c6] at e6; subst e6
        refine v_if_eq (tgt := 57) C dX4_stateIn_52 (by decide) (fun c7 => absurd c7 (by decide)) (fun c7 => ?_)
        refine v_iconst (v := 1) C dX4_stateIn_55 (by decide) ?_
        have z0 : ¬ (dozes s j q ∨ lmA (rL s j) q = -1) := fun z => z.elim c3 c2
        have z1 : kept s j q 0 := by unfold kept; rw [Int64.add_zero]; exact c6
        exact v_iret C hQ hr rfl (Nat.le_of_ble_eq_true rfl) (Nat.le_of_ble_eq_true rfl) dX4_stateIn_56 ⟨congrArg nI ((if_neg z0).trans (if_pos z1)).symm, rfl⟩
      · rw [zb_f c6] at e6; subst e6
        refine v_if_eq (tgt := 57) C dX4_stateIn_52 (by decide) (fun c8 => ?_) (fun c8 => absurd c8 (by decide))
        refine v_lload C 1 rfl dX4_stateIn_57 ?_
        refine v_lload C 0 rfl dX4_stateIn_59 ?_
        refine v_aload_n C 4 rfl dX4_stateIn_61 rfl ?_
        refine v_get (v := .ref (qA g 8 j)) C F_X4_311 t6 rfl dX4_stateIn_62 ?_
        refine v_iload_n C 5 rfl dX4_stateIn_65 rfl ?_
        refine v_iald C t8 (vpin (show q < 20 by omega) (by decide)) dX4_stateIn_66 (v_eqi (y := (rC s j q)) ((congrArg f8 (nI_clamp (show q < 2 ^ 31 by omega))).trans (q8 q (by omega))) ?_)
        refine v_i2l (v := ((rC s j q) : Int32).toInt64) C dX4_stateIn_67 rfl ?_
        refine v_ladd C dX4_stateIn_68 (v_eql (y := ((oV s (rB s j) q) + (Int32.toInt64 (rC s j q)))) (rfl) ?_)
        refine v_iload_n C 2 rfl dX4_stateIn_69 rfl ?_
        refine v_callS (rest := []) C (c_X4_isKept l hl G (oV s (rT s j) q) ((oV s (rB s j) q) + (Int32.toInt64 (rC s j q))) (lmA (rL s j) q) h) S_X4_347 rfl rfl (Nat.le_of_ble_eq_true rfl) ⟨Nat.le_of_ble_eq_true rfl, Nat.le_of_ble_eq_true rfl⟩ ⟨Nat.le_of_ble_eq_true rfl, Nat.le_of_ble_eq_true rfl⟩ dX4_stateIn_70 (fun i10 h10 q10 => ?_)
        obtain ⟨e10, rfl⟩ := q10
        by_cases c10 : 0 < ((oV s (rB s j) q) + (Int32.toInt64 (rC s j q))) ∧ 100 * (oV s (rT s j) q) ≤ Int32.toInt64 (lmA (rL s j) q) * ((oV s (rB s j) q) + (Int32.toInt64 (rC s j q)))
        · rw [zb_t c10] at e10; subst e10
          refine v_if_eq (tgt := 78) C dX4_stateIn_73 (by decide) (fun c11 => absurd c11 (by decide)) (fun c11 => ?_)
          refine v_iconst (v := 2) C dX4_stateIn_76 (by decide) ?_
          have z0 : ¬ (dozes s j q ∨ lmA (rL s j) q = -1) := fun z => z.elim c3 c2
          have z1 : ¬ kept s j q 0 := by unfold kept; rw [Int64.add_zero]; exact c6
          exact v_iret C hQ hr rfl (Nat.le_of_ble_eq_true rfl) (Nat.le_of_ble_eq_true rfl) dX4_stateIn_77 ⟨congrArg nI ((if_neg z0).trans ((if_neg z1).trans (if_pos c10))).symm, rfl⟩
        · rw [zb_f c10] at e10; subst e10
          refine v_if_eq (tgt := 78) C dX4_stateIn_73 (by decide) (fun c12 => ?_) (fun c12 => absurd c12 (by decide))
          refine v_aload_n C 4 rfl dX4_stateIn_78 rfl ?_
          refine v_get (v := .ref (qA g 9 j)) C F_X4_323 t6 rfl dX4_stateIn_79 ?_
          refine v_iload_n C 5 rfl dX4_stateIn_82 rfl ?_
          refine v_zald C t9 (vpin (show q < 20 by omega) (by decide)) dX4_stateIn_83 (v_eqi (y := (b01 (rV s j q))) ((congrArg f9 (nI_clamp (show q < 2 ^ 31 by omega))).trans (q9 q (by omega))) ?_)
          have hvv : b01 (rV s j q) = if rV s j q = true then 1 else 0 := rfl
          by_cases z4 : rV s j q = true
          · rw [show b01 (rV s j q) = 1 from if_pos z4]
            refine v_if_eq (tgt := 91) C dX4_stateIn_84 (by decide) (fun c13 => absurd c13 (by decide)) (fun c13 => ?_)
            refine v_iconst (v := 3) C dX4_stateIn_87 (by decide) ?_
            refine v_goto (tgt := 92) C dX4_stateIn_88 (by decide) ?_
            have z0 : ¬ (dozes s j q ∨ lmA (rL s j) q = -1) := fun z => z.elim c3 c2
            have z1 : ¬ kept s j q 0 := by unfold kept; rw [Int64.add_zero]; exact c6
            exact v_iret C hQ hr rfl (Nat.le_of_ble_eq_true rfl) (Nat.le_of_ble_eq_true rfl) dX4_stateIn_92 ⟨congrArg nI ((if_neg z0).trans ((if_neg z1).trans ((if_neg c10).trans (if_pos z4)))).symm, rfl⟩
          · rw [show b01 (rV s j q) = 0 from if_neg z4]
            refine v_if_eq (tgt := 91) C dX4_stateIn_84 (by decide) (fun c14 => ?_) (fun c14 => absurd c14 (by decide))
            refine v_iconst (v := 4) C dX4_stateIn_91 (by decide) ?_
            have z0 : ¬ (dozes s j q ∨ lmA (rL s j) q = -1) := fun z => z.elim c3 c2
            have z1 : ¬ kept s j q 0 := by unfold kept; rw [Int64.add_zero]; exact c6
            exact v_iret C hQ hr rfl (Nat.le_of_ble_eq_true rfl) (Nat.le_of_ble_eq_true rfl) dX4_stateIn_92 ⟨congrArg nI ((if_neg z0).trans ((if_neg z1).trans ((if_neg c10).trans (if_neg z4)))).symm, rfl⟩
set_option maxHeartbeats 4000000 in
set_option maxRecDepth 100000 in
theorem c_X4_sizeIn (l : Launch) (hl : l.stackTraces = false) (G : zG) (x j q : Nat) (g : XGh) (s : ZS) (h : zH) (hi : XI G h g x s) (hw : WFs s) (hj : j < bN s) (hq : q < 20) : zMet eL l yX4_sizeIn cX4_sizeIn 4 (some .long) 14 0 0 G [.ref (qA g 10 j), .int (nI q)] h (fun r h2 => r = bSize s j q ∧ h = h2) := by
  refine con_of hl RX4 rfl (by decide +kernel) [(0, .ref (qA g 10 j)), (1, .int (nI q))] rfl (Nat.le_of_ble_eq_true rfl) ?_
  intro zp ze zs zm zargs zbelow zmeth zc C hr hin Q hQ
  obtain ⟨⟨hO, hA, ⟨hL0, hL1, hL2, hL3⟩, hS, hN, hT, hR, hB⟩, hV⟩ := id hi
  obtain ⟨rb, tb⟩ := hB j hj
  obtain ⟨hbT, hbF, hbP⟩ := hw.2.2.2.2.2.2.1 j hj
  obtain ⟨r3T, r4T, r5T, t3T, -, -⟩ := hT (bT s j) hbT
  obtain ⟨vT, t5T, qvT⟩ := hV (bT s j) hbT
  refine v_aload_n C 0 rfl dX4_sizeIn_0 rfl ?_
  refine v_get (v := .ref (qA g 3 (bT s j))) C F_X4_383 tb rfl dX4_sizeIn_1 ?_
  refine v_get (v := .ref (qA g 5 (bT s j))) C F_X4_113 t3T rfl dX4_sizeIn_4 ?_
  refine v_iload_n C 1 rfl dX4_sizeIn_7 rfl ?_
  refine v_lald C t5T (vpin (show q < 20 by omega) (by decide)) dX4_sizeIn_8 (v_eql (y := (oV s (bT s j) q)) ((congrArg vT (nI_clamp (show q < 2 ^ 31 by omega))).trans (qvT q (by omega))) ?_)
  refine v_lstore_n C [(2, .long (oV s (bT s j) q)), (0, .ref (qA g 10 j)), (1, .int (nI q))] rfl (by decide) dX4_sizeIn_9 rfl ?_
  refine v_lload_n C 0 rfl dX4_sizeIn_10 rfl ?_
  refine v_lconst (v := 0) C dX4_sizeIn_11 (by decide) ?_
  refine v_lcmp C dX4_sizeIn_12 ?_
  refine v_if_le (tgt := 33) C dX4_sizeIn_13 (by decide) (fun c1 => ?_) (fun c1 => ?_)
  · have c1 := (lgc_le (oV s (bT s j) q) 0).mp c1
    refine v_aload_n C 1 rfl dX4_sizeIn_33 rfl ?_
    refine v_get (v := .int (bF s j)) C F_X4_386 tb rfl dX4_sizeIn_34 ?_
    refine v_i2l (v := ((bF s j) : Int32).toInt64) C dX4_sizeIn_37 rfl ?_
    exact v_lret C hQ hr (Nat.le_of_ble_eq_true rfl) (Nat.le_of_ble_eq_true rfl) dX4_sizeIn_38 ⟨(if_neg (Int64.not_lt.mpr c1)).symm, rfl⟩
  · have c1 := (lgc_le_f (oV s (bT s j) q) 0).mp c1
    refine v_aload_n C 1 rfl dX4_sizeIn_16 rfl ?_
    refine v_get (v := .int (bF s j)) C F_X4_386 tb rfl dX4_sizeIn_17 ?_
    refine v_i2l (v := ((bF s j) : Int32).toInt64) C dX4_sizeIn_20 rfl ?_
    refine v_lload_n C 0 rfl dX4_sizeIn_21 rfl ?_
    refine v_aload_n C 1 rfl dX4_sizeIn_22 rfl ?_
    refine v_get (v := .int (bP s j)) C F_X4_389 tb rfl dX4_sizeIn_23 ?_
    refine v_callS (rest := [.long (Int32.toInt64 (bF s j))]) C (c_X4_shareOf l hl G (oV s (bT s j) q) (bP s j) h) S_X4_254 rfl rfl (Nat.le_of_ble_eq_true rfl) ⟨Nat.le_of_ble_eq_true rfl, Nat.le_of_ble_eq_true rfl⟩ ⟨Nat.le_of_ble_eq_true rfl, Nat.le_of_ble_eq_true rfl⟩ dX4_sizeIn_26 (fun l2 h2 q2 => ?_)
    obtain ⟨e2, rfl⟩ := q2; subst e2
    refine v_ladd C dX4_sizeIn_29 (v_eql (y := ((Int32.toInt64 (bF s j)) + (zfd ((oV s (bT s j) q) * Int32.toInt64 (bP s j))))) (rfl) ?_)
    refine v_goto (tgt := 38) C dX4_sizeIn_30 (by decide) ?_
    exact v_lret C hQ hr (Nat.le_of_ble_eq_true rfl) (Nat.le_of_ble_eq_true rfl) dX4_sizeIn_38 ⟨(if_pos (Int64.not_le.mp c1)).symm, rfl⟩

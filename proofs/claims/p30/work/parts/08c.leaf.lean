theorem zfd_rem (x : Int64) : x - x / 100 * 100 = x % 100 := by
  rw [← Int64.toInt_inj, Int64.toInt_sub, zfd_mul, zfd_mod]
  have h1 := x.le_toInt; have h2 := x.toInt_lt
  have a := Int.mul_tdiv_add_tmod x.toInt 100
  have b := Int.tdiv_eq_ediv (a := x.toInt) (b := 100); rw [show Int.sign 100 = 1 from rfl] at b
  rw [show x.toInt - x.toInt.tdiv 100 * 100 = x.toInt.tmod 100 by omega]
  apply Int.bmod_eq_of_le
  · split at b <;> omega
  · split at b <;> omega
theorem no_div {a : Nat} (h : a < 2 ^ 31) : nI a / 10 = nI (a / 10) := pk_div (d := 10) h (by decide) (by decide)
theorem no_rem {a : Nat} (h : a < 2 ^ 31) : nI a - nI a / 10 * 10 = nI (a % 10) := pk_rem (d := 10) h (by decide) (by decide)
theorem dn_p {x : Int64} (h : 0 ≤ x - x / 100 * 100) : x / 100 - 0 = zfd x := by
  rw [zfd_rem] at h
  rw [Int64.sub_zero]; exact (if_neg (Int64.not_lt.mpr h)).symm
theorem dn_m {x : Int64} (h : ¬ 0 ≤ x - x / 100 * 100) : x / 100 - 1 = zfd x := by
  rw [zfd_rem] at h
  exact (if_pos (Int64.not_le.mp h)).symm
theorem dgx {n a : Nat} {v : Int32} (hv : v = nI a) (h : sb_dg n = a) : v = nI (sb_dg n) := by rw [h]; exact hv
set_option maxHeartbeats 4000000 in
set_option maxRecDepth 100000 in
theorem c_L_down (l : Launch) (hl : l.stackTraces = false) (G : zG) (x : Int64) (h : zH)  : zMet eL l yL_down cL_down 4 (some .long) 12 0 0 G [.long x, .long 100] h (fun r h2 => r = zfd x ∧ h = h2) := by
  refine con_of hl RL rfl (by decide +kernel) [(0, .long x), (2, .long 100)] rfl (Nat.le_of_ble_eq_true rfl) ?_
  intro zp ze zs zm zargs zbelow zmeth zc C hr hin Q hQ
  refine v_lload_n C 0 rfl dL_down_0 rfl ?_
  refine v_lload_n C 1 rfl dL_down_1 rfl ?_
  refine v_ldiv C dL_down_2 (by decide) (v_eql (y := (x / 100)) (rfl) ?_)
  refine v_lload_n C 0 rfl dL_down_3 rfl ?_
  refine v_lload_n C 1 rfl dL_down_4 rfl ?_
  refine v_lrem C dL_down_5 (by decide) (v_eql (y := (x - x / 100 * 100)) (rfl) ?_)
  refine v_lconst (v := 0) C dL_down_6 (by decide) ?_
  refine v_lcmp C dL_down_7 ?_
  refine v_if_ge (tgt := 15) C dL_down_8 (by decide) (fun c3 => ?_) (fun c3 => ?_)
  · have c3 := (lgc_ge (x - x / 100 * 100) 0).mp c3
    refine v_iconst (v := 0) C dL_down_15 (by decide) ?_
    refine v_i2l (v := 0) C dL_down_16 (by decide) ?_
    refine v_lsub C dL_down_17 (v_eql (y := (x / 100 - 0)) (rfl) ?_)
    exact v_lret C hQ hr (Nat.le_of_ble_eq_true rfl) (Nat.le_of_ble_eq_true rfl) dL_down_18 ⟨dn_p c3, rfl⟩
  · have c3 := (lgc_ge_f (x - x / 100 * 100) 0).mp c3
    refine v_iconst (v := 1) C dL_down_11 (by decide) ?_
    refine v_goto (tgt := 16) C dL_down_12 (by decide) ?_
    refine v_i2l (v := 1) C dL_down_16 (by decide) ?_
    refine v_lsub C dL_down_17 (v_eql (y := (x / 100 - 1)) (rfl) ?_)
    exact v_lret C hQ hr (Nat.le_of_ble_eq_true rfl) (Nat.le_of_ble_eq_true rfl) dL_down_18 ⟨dn_m c3, rfl⟩
set_option maxHeartbeats 4000000 in
set_option maxRecDepth 100000 in
theorem c_L_low (l : Launch) (hl : l.stackTraces = false) (G : zG) (v : Int32) (d : Nat) (h : zH) (h0 : 0 < d) (hd31 : d < 2 ^ 31) : zMet eI l yL_low cL_low 2 (some .int) 12 0 0 G [.int v, .int (nI d)] h (fun r h2 => r = nI (lw v d) ∧ h = h2) := by
  refine con_of hl RL rfl (by decide +kernel) [(0, .int v), (1, .int (nI d))] rfl (Nat.le_of_ble_eq_true rfl) ?_
  intro zp ze zs zm zargs zbelow zmeth zc C hr hin Q hQ
  refine v_iload_n C 0 rfl dL_low_0 rfl ?_
  refine v_ldc C KO_L_9 dL_low_1 ?_
  refine v_iand C dL_low_3 (v_eqi (y := (v &&& 2147483647)) (rfl) ?_)
  refine v_iload_n C 1 rfl dL_low_4 rfl ?_
  refine v_irem C dL_low_5 (fun z => absurd ((nk_eq (a := d) 0 (by decide) hd31 (by decide)).mp z) (by omega)) (v_eqi (y := (nI (lw v d))) (lw_eq v h0 hd31) ?_)
  exact v_iret C hQ hr rfl (Nat.le_of_ble_eq_true rfl) (Nat.le_of_ble_eq_true rfl) dL_low_6 ⟨rfl, rfl⟩
set_option maxHeartbeats 4000000 in
set_option maxRecDepth 100000 in
theorem c_L_digits (l : Launch) (hl : l.stackTraces = false) (G : zG) (n : Nat) (h : zH) (hn : n ≤ 1000000) : zMet eI l yL_digits cL_digits 1 (some .int) 12 0 0 G [.int (nI n)] h (fun r h2 => r = nI (sb_dg n) ∧ h = h2) := by
  refine con_of hl RL rfl (by decide +kernel) [(0, .int (nI n))] rfl (Nat.le_of_ble_eq_true rfl) ?_
  intro zp ze zs zm zargs zbelow zmeth zc C hr hin Q hQ
  refine v_iload_n C 0 rfl dL_digits_0 rfl ?_
  refine v_bipush (v := 10) C dL_digits_1 (by decide) ?_
  refine v_icmp_ge (tgt := 10) C dL_digits_3 (by decide) (fun c1 => ?_) (fun c1 => ?_)
  · have c1 := (nk_ge (a := n) 10 (by decide) (by omega) (by decide)).mp c1
    refine v_iload_n C 0 rfl dL_digits_10 rfl ?_
    refine v_bipush (v := 100) C dL_digits_11 (by decide) ?_
    refine v_icmp_ge (tgt := 20) C dL_digits_13 (by decide) (fun c2 => ?_) (fun c2 => ?_)
    · have c2 := (nk_ge (a := n) 100 (by decide) (by omega) (by decide)).mp c2
      refine v_iload_n C 0 rfl dL_digits_20 rfl ?_
      refine v_sipush (v := 1000) C dL_digits_21 (by decide) ?_
      refine v_icmp_ge (tgt := 31) C dL_digits_24 (by decide) (fun c3 => ?_) (fun c3 => ?_)
      · have c3 := (nk_ge (a := n) 1000 (by decide) (by omega) (by decide)).mp c3
        refine v_iload_n C 0 rfl dL_digits_31 rfl ?_
        refine v_sipush (v := 10000) C dL_digits_32 (by decide) ?_
        refine v_icmp_ge (tgt := 42) C dL_digits_35 (by decide) (fun c4 => ?_) (fun c4 => ?_)
        · have c4 := (nk_ge (a := n) 10000 (by decide) (by omega) (by decide)).mp c4
          refine v_iload_n C 0 rfl dL_digits_42 rfl ?_
          refine v_ldc C KO_L_10 dL_digits_43 ?_
          refine v_icmp_ge (tgt := 52) C dL_digits_45 (by decide) (fun c5 => ?_) (fun c5 => ?_)
          · have c5 := (nk_ge (a := n) 100000 (by decide) (by omega) (by decide)).mp c5
            refine v_iload_n C 0 rfl dL_digits_52 rfl ?_
            refine v_ldc C KO_L_11 dL_digits_53 ?_
            refine v_icmp_ge (tgt := 63) C dL_digits_55 (by decide) (fun c6 => ?_) (fun c6 => ?_)
            · have c6 := (nk_ge (a := n) 1000000 (by decide) (by omega) (by decide)).mp c6
              refine v_bipush (v := 7) C dL_digits_63 (by decide) ?_
              exact v_iret C hQ hr rfl (Nat.le_of_ble_eq_true rfl) (Nat.le_of_ble_eq_true rfl) dL_digits_65 ⟨dgx (by decide) (show sb_dg n = 7 by unfold sb_dg; (repeat' split) <;> omega), rfl⟩
            · have c6 := (nk_ge_f (a := n) 1000000 (by decide) (by omega) (by decide)).mp c6
              refine v_bipush (v := 6) C dL_digits_58 (by decide) ?_
              refine v_goto (tgt := 65) C dL_digits_60 (by decide) ?_
              exact v_iret C hQ hr rfl (Nat.le_of_ble_eq_true rfl) (Nat.le_of_ble_eq_true rfl) dL_digits_65 ⟨dgx (by decide) (show sb_dg n = 6 by unfold sb_dg; (repeat' split) <;> omega), rfl⟩
          · have c5 := (nk_ge_f (a := n) 100000 (by decide) (by omega) (by decide)).mp c5
            refine v_iconst (v := 5) C dL_digits_48 (by decide) ?_
            refine v_goto (tgt := 65) C dL_digits_49 (by decide) ?_
            exact v_iret C hQ hr rfl (Nat.le_of_ble_eq_true rfl) (Nat.le_of_ble_eq_true rfl) dL_digits_65 ⟨dgx (by decide) (show sb_dg n = 5 by unfold sb_dg; (repeat' split) <;> omega), rfl⟩
        · have c4 := (nk_ge_f (a := n) 10000 (by decide) (by omega) (by decide)).mp c4
          refine v_iconst (v := 4) C dL_digits_38 (by decide) ?_
          refine v_goto (tgt := 65) C dL_digits_39 (by decide) ?_
          exact v_iret C hQ hr rfl (Nat.le_of_ble_eq_true rfl) (Nat.le_of_ble_eq_true rfl) dL_digits_65 ⟨dgx (by decide) (show sb_dg n = 4 by unfold sb_dg; (repeat' split) <;> omega), rfl⟩
      · have c3 := (nk_ge_f (a := n) 1000 (by decide) (by omega) (by decide)).mp c3
        refine v_iconst (v := 3) C dL_digits_27 (by decide) ?_
        refine v_goto (tgt := 65) C dL_digits_28 (by decide) ?_
        exact v_iret C hQ hr rfl (Nat.le_of_ble_eq_true rfl) (Nat.le_of_ble_eq_true rfl) dL_digits_65 ⟨dgx (by decide) (show sb_dg n = 3 by unfold sb_dg; (repeat' split) <;> omega), rfl⟩
    · have c2 := (nk_ge_f (a := n) 100 (by decide) (by omega) (by decide)).mp c2
      refine v_iconst (v := 2) C dL_digits_16 (by decide) ?_
      refine v_goto (tgt := 65) C dL_digits_17 (by decide) ?_
      exact v_iret C hQ hr rfl (Nat.le_of_ble_eq_true rfl) (Nat.le_of_ble_eq_true rfl) dL_digits_65 ⟨dgx (by decide) (show sb_dg n = 2 by unfold sb_dg; (repeat' split) <;> omega), rfl⟩
  · have c1 := (nk_ge_f (a := n) 10 (by decide) (by omega) (by decide)).mp c1
    refine v_iconst (v := 1) C dL_digits_6 (by decide) ?_
    refine v_goto (tgt := 65) C dL_digits_7 (by decide) ?_
    exact v_iret C hQ hr rfl (Nat.le_of_ble_eq_true rfl) (Nat.le_of_ble_eq_true rfl) dL_digits_65 ⟨dgx (by decide) (show sb_dg n = 1 by unfold sb_dg; (repeat' split) <;> omega), rfl⟩
set_option maxHeartbeats 4000000 in
set_option maxRecDepth 100000 in
theorem c_L_digit (l : Launch) (hl : l.stackTraces = false) (G : zG) (n p : Nat) (h : zH) (hn : n ≤ 1000000) (hp : p < sb_dg n) : zMet eI l yL_digit cL_digit 4 (some .int) 13 0 0 G [.int (nI n), .int (nI p)] h (fun r h2 => r = nI (sb_dec n p) ∧ h = h2) := by
  refine con_of hl RL rfl (by decide +kernel) [(0, .int (nI n)), (1, .int (nI p))] rfl (Nat.le_of_ble_eq_true rfl) ?_
  intro zp ze zs zm zargs zbelow zmeth zc C hr hin Q hQ
  have hd7 := dg_le7 hn
  refine v_iload_n C 0 rfl dL_digit_0 rfl ?_
  refine v_istore_n C [(2, .int (nI n)), (0, .int (nI n)), (1, .int (nI p))] rfl (by decide) dL_digit_1 rfl ?_
  refine v_iload_n C 1 rfl dL_digit_2 rfl ?_
  refine v_callS (rest := []) C (c_L_digits l hl G n h (by omega)) S_L_12 rfl rfl (Nat.le_of_ble_eq_true rfl) ⟨Nat.le_of_ble_eq_true rfl, Nat.le_of_ble_eq_true rfl⟩ ⟨Nat.le_of_ble_eq_true rfl, Nat.le_of_ble_eq_true rfl⟩ dL_digit_3 (fun i1 h1 q1 => ?_)
  obtain ⟨e1, rfl⟩ := q1; subst e1
  refine v_iconst (v := 1) C dL_digit_6 (by decide) ?_
  refine v_isub C dL_digit_7 (v_eqi (nI_sbk (a := (sb_dg n)) 1 (by decide) (by have := sb_dg_in n; omega)) ?_)
  refine v_istore_n C [(3, .int (nI ((sb_dg n) - 1))), (2, .int (nI n)), (0, .int (nI n)), (1, .int (nI p))] rfl (by decide) dL_digit_8 rfl ?_
  have hdv := sb_dg_in n
  refine v_lvp (lv2 := [(3, .int (nI (sb_dg n - 1 - 0))), (2, .int (nI (n / 10 ^ 0))), (0, .int (nI n)), (1, .int (nI p))]) [0, 1, 2, 3] (by rw [Nat.pow_zero, Nat.div_one]; rfl) ?_
  have L3 : ∀ (d : Nat) (j : Nat), (p + j ≤ sb_dg n - 1) → (sb_dg n < p + j + d) → V zp l ze (rmm 13 0 0) zs zm zargs zbelow zmeth zc G 4 Q h (0 + 0) (0 + 0) 9 [(3, .int (nI (sb_dg n - 1 - j))), (2, .int (nI (n / 10 ^ j))), (0, .int (nI n)), (1, .int (nI p))] [] := by
    intro d
    induction d with
    | zero =>
      intro j hj hd
      exact absurd hd (by omega)
    | succ d ih3 =>
      intro j hj hd
      refine v_iload_n C 0 rfl dL_digit_9 rfl ?_
      refine v_iload_n C 3 rfl dL_digit_10 rfl ?_
      refine v_icmp_le (tgt := 25) C dL_digit_11 (by decide) (fun c4 => ?_) (fun c4 => ?_)
      · have c4 := (nn_le (a := (sb_dg n - 1 - j)) (b := p) (by omega) (by omega)).mp c4
        have hb0 : n / 10 ^ j ≤ 1000000 := Nat.le_trans (Nat.div_le_self _ _) hn
        have hm10 := Nat.mod_lt (n / 10 ^ j) (show 0 < 10 by decide)
        have hjp : sb_dg n - 1 - p = j := by omega
        refine v_bipush (v := 48) C dL_digit_25 (by decide) ?_
        refine v_iload_n C 1 rfl dL_digit_27 rfl ?_
        refine v_bipush (v := 10) C dL_digit_28 (by decide) ?_
        refine v_irem C dL_digit_30 (by decide) (v_eqi (y := (nI (n / 10 ^ j % 10))) (no_rem (by omega)) ?_)
        refine v_iadd C dL_digit_31 (v_eqi (nI_kad (n / 10 ^ j % 10) 48 (by decide)) ?_)
        exact v_iret C hQ hr rfl (Nat.le_of_ble_eq_true rfl) (Nat.le_of_ble_eq_true rfl) dL_digit_32 ⟨congrArg nI (show 48 + n / 10 ^ j % 10 = sb_dec n p by unfold sb_dec; rw [hjp]), rfl⟩
      · have c4 := (nn_le_f (a := (sb_dg n - 1 - j)) (b := p) (by omega) (by omega)).mp c4
        have hb0 : n / 10 ^ j ≤ 1000000 := Nat.le_trans (Nat.div_le_self _ _) hn
        have hq : n / 10 ^ j / 10 = n / 10 ^ (j + 1) := by rw [Nat.div_div_eq_div_mul, Nat.pow_succ]
        refine v_iload_n C 1 rfl dL_digit_14 rfl ?_
        refine v_bipush (v := 10) C dL_digit_15 (by decide) ?_
        refine v_idiv C dL_digit_17 (by decide) (v_eqi (y := (nI (n / 10 ^ (j + 1)))) ((no_div (by omega)).trans (congrArg nI hq)) ?_)
        refine v_istore_n C [(2, .int (nI (n / 10 ^ (j + 1)))), (3, .int (nI (sb_dg n - 1 - j))), (0, .int (nI n)), (1, .int (nI p))] rfl (by decide) dL_digit_18 rfl ?_
        refine v_iinc C 1 [(3, .int (nI (sb_dg n - 1 - (j + 1)))), (2, .int (nI (n / 10 ^ (j + 1)))), (0, .int (nI n)), (1, .int (nI p))] rfl ((nI_dec (p := sb_dg n - 1 - j) (by omega)).trans (congrArg nI (show sb_dg n - 1 - j - 1 = sb_dg n - 1 - (j + 1) by omega))) rfl (by decide) dL_digit_19 ?_
        refine v_goto (tgt := 9) C dL_digit_22 (by decide) ?_
        refine v_lvp [0, 1, 2, 3] rfl ?_
        exact ih3 (j + 1) (by omega) (by omega)
  refine v_lvp [0, 1, 2, 3] rfl ?_
  exact L3 (sb_dg n + 1) 0 (by omega) (by omega)
set_option maxHeartbeats 4000000 in
set_option maxRecDepth 100000 in
theorem c_L_holds (l : Launch) (hl : l.stackTraces = false) (G : zG) (t q da : Nat) (D : Nat → Int32) (h : zH) (hD : iC G h da 60 D) (ht : t < 6) (hq : q < 10) (h0 : ¬ D (10 * t) < 0) : zMet eI l yL_holds cL_holds 4 (some .int) 12 0 0 G [.int (nI t), .int (nI q), .ref da] h (fun r h2 => r = hqd D t q ∧ h = h2) := by
  refine con_of hl RL rfl (by decide +kernel) [(0, .int (nI t)), (1, .int (nI q)), (2, .ref da)] rfl (Nat.le_of_ble_eq_true rfl) ?_
  intro zp ze zs zm zargs zbelow zmeth zc C hr hin Q hQ
  refine v_bipush (v := 10) C dL_holds_0 (by decide) ?_
  refine v_iload_n C 0 rfl dL_holds_2 rfl ?_
  refine v_imul C dL_holds_3 (v_eqi (nI_kml t 10 (by decide)) ?_)
  refine v_iload_n C 1 rfl dL_holds_4 rfl ?_
  refine v_iadd C dL_holds_5 (v_eqi (nI_add (10 * t) q) ?_)
  refine v_istore_n C [(3, .int (nI ((10 * t) + q))), (0, .int (nI t)), (1, .int (nI q)), (2, .ref da)] rfl (by decide) dL_holds_6 rfl ?_
  have L3 : ∀ (d : Nat) (c : Nat), (c ≤ q) → (hqd D t q = hqd D t c) → (c < d) → V zp l ze (rmm 12 0 0) zs zm zargs zbelow zmeth zc G 4 Q h (0) (0) 7 [(3, .int (nI (10 * t + c))), (0, .int (nI t)), (1, .int (nI q)), (2, .ref da)] [] := by
    intro d
    induction d with
    | zero =>
      intro c hc hcc hd
      exact absurd hd (by omega)
    | succ d ih3 =>
      intro c hc hcc hd
      refine v_aload_n C 3 rfl dL_holds_7 rfl ?_
      refine v_iload_n C 0 rfl dL_holds_8 rfl ?_
      refine v_iald C hD (vpin (show 10 * t + c < 60 by omega) (by decide)) dL_holds_9 (v_eqi (y := D (10 * t + c)) (congrArg D (nI_clamp (show 10 * t + c < 2 ^ 31 by omega))) ?_)
      refine v_if_ge (tgt := 19) C dL_holds_10 (by decide) (fun c4 => ?_) (fun c4 => ?_)
      · refine v_aload_n C 3 rfl dL_holds_19 rfl ?_
        refine v_iload_n C 0 rfl dL_holds_20 rfl ?_
        refine v_iald C hD (vpin (show 10 * t + c < 60 by omega) (by decide)) dL_holds_21 (v_eqi (y := D (10 * t + c)) (congrArg D (nI_clamp (show 10 * t + c < 2 ^ 31 by omega))) ?_)
        exact v_iret C hQ hr rfl (Nat.le_of_ble_eq_true rfl) (Nat.le_of_ble_eq_true rfl) dL_holds_22 ⟨(hcc.trans (hqd_yes (Int32.not_lt.mpr c4))).symm, rfl⟩
      · have hc0 : c ≠ 0 := fun z => h0 (by rw [z] at c4; exact Int32.not_le.mp c4)
        refine v_iinc C 0 [(3, .int (nI (10 * t + (c - 1)))), (0, .int (nI t)), (1, .int (nI q)), (2, .ref da)] rfl ((nI_dec (p := 10 * t + c) (by omega)).trans (congrArg nI (show 10 * t + c - 1 = 10 * t + (c - 1) by omega))) rfl (by decide) dL_holds_13 ?_
        refine v_goto (tgt := 7) C dL_holds_16 (by decide) ?_
        refine v_lvp [0, 1, 2, 3] rfl ?_
        exact ih3 (c - 1) (by omega) (hcc.trans (hqd_no hc0 (Int32.not_le.mp c4))) (by omega)
  refine v_lvp [0, 1, 2, 3] rfl ?_
  exact L3 (q + 1) q (Nat.le_refl _) rfl (by omega)
set_option maxHeartbeats 4000000 in
set_option maxRecDepth 100000 in
theorem c_L_join (l : Launch) (hl : l.stackTraces = false) (G : zG) (kd : Nat) (x y : Int64) (h : zH) (hk4 : kd < 4) : zMet eL l yL_join cL_join 5 (some .long) 12 0 0 G [.int (nI kd), .long x, .long y] h (fun r h2 => r = sjn kd x y ∧ h = h2) := by
  refine con_of hl RL rfl (by decide +kernel) [(0, .int (nI kd)), (1, .long x), (3, .long y)] rfl (Nat.le_of_ble_eq_true rfl) ?_
  intro zp ze zs zm zargs zbelow zmeth zc C hr hin Q hQ
  refine v_iload_n C 0 rfl dL_join_0 rfl ?_
  refine v_if_ne (tgt := 10) C dL_join_1 (by decide) (fun c1 => ?_) (fun c1 => ?_)
  · have c1 := (nk_ne (a := kd) 0 (by decide) (by omega) (by decide)).mp c1
    refine v_iload_n C 0 rfl dL_join_10 rfl ?_
    refine v_iconst (v := 1) C dL_join_11 (by decide) ?_
    refine v_icmp_ne (tgt := 21) C dL_join_12 (by decide) (fun c2 => ?_) (fun c2 => ?_)
    · have c2 := (nk_ne (a := kd) 1 (by decide) (by omega) (by decide)).mp c2
      refine v_iload_n C 0 rfl dL_join_21 rfl ?_
      refine v_iconst (v := 2) C dL_join_22 (by decide) ?_
      refine v_icmp_ne (tgt := 30) C dL_join_23 (by decide) (fun c3 => ?_) (fun c3 => ?_)
      · have c3 := (nk_ne (a := kd) 2 (by decide) (by omega) (by decide)).mp c3
        refine v_iconst (v := 0) C dL_join_30 (by decide) ?_
        refine v_lload_n C 1 rfl dL_join_31 rfl ?_
        refine v_lload_n C 2 rfl dL_join_32 rfl ?_
        refine v_lcmp C dL_join_33 ?_
        refine v_if_ge (tgt := 41) C dL_join_34 (by decide) (fun c4 => ?_) (fun c4 => ?_)
        · have c4 := (lgc_ge x y).mp c4
          refine v_iconst (v := 0) C dL_join_41 (by decide) ?_
          refine v_icmp_ne (tgt := 49) C dL_join_42 (by decide) (fun c5 => absurd c5 (by decide)) (fun c5 => ?_)
          refine v_lload_n C 1 rfl dL_join_45 rfl ?_
          refine v_goto (tgt := 50) C dL_join_46 (by decide) ?_
          exact v_lret C hQ hr (Nat.le_of_ble_eq_true rfl) (Nat.le_of_ble_eq_true rfl) dL_join_50 ⟨by unfold sjn; simp [c1, c2, c3, Int64.not_lt.mpr c4], rfl⟩
        · have c4 := (lgc_ge_f x y).mp c4
          refine v_iconst (v := 1) C dL_join_37 (by decide) ?_
          refine v_goto (tgt := 42) C dL_join_38 (by decide) ?_
          refine v_icmp_ne (tgt := 49) C dL_join_42 (by decide) (fun c6 => ?_) (fun c6 => absurd c6 (by decide))
          refine v_lload_n C 2 rfl dL_join_49 rfl ?_
          exact v_lret C hQ hr (Nat.le_of_ble_eq_true rfl) (Nat.le_of_ble_eq_true rfl) dL_join_50 ⟨by unfold sjn; simp [c1, c2, c3, c4], rfl⟩
      · have c3 := (nk_ne_f (a := kd) 2 (by decide) (by omega) (by decide)).mp c3
        refine v_iconst (v := 1) C dL_join_26 (by decide) ?_
        refine v_goto (tgt := 31) C dL_join_27 (by decide) ?_
        refine v_lload_n C 1 rfl dL_join_31 rfl ?_
        refine v_lload_n C 2 rfl dL_join_32 rfl ?_
        refine v_lcmp C dL_join_33 ?_
        refine v_if_ge (tgt := 41) C dL_join_34 (by decide) (fun c7 => ?_) (fun c7 => ?_)
        · have c7 := (lgc_ge x y).mp c7
          refine v_iconst (v := 0) C dL_join_41 (by decide) ?_
          refine v_icmp_ne (tgt := 49) C dL_join_42 (by decide) (fun c8 => ?_) (fun c8 => absurd c8 (by decide))
          refine v_lload_n C 2 rfl dL_join_49 rfl ?_
          exact v_lret C hQ hr (Nat.le_of_ble_eq_true rfl) (Nat.le_of_ble_eq_true rfl) dL_join_50 ⟨by unfold sjn; simp [c1, c2, c3, Int64.not_lt.mpr c7], rfl⟩
        · have c7 := (lgc_ge_f x y).mp c7
          refine v_iconst (v := 1) C dL_join_37 (by decide) ?_
          refine v_goto (tgt := 42) C dL_join_38 (by decide) ?_
          refine v_icmp_ne (tgt := 49) C dL_join_42 (by decide) (fun c9 => absurd c9 (by decide)) (fun c9 => ?_)
          refine v_lload_n C 1 rfl dL_join_45 rfl ?_
          refine v_goto (tgt := 50) C dL_join_46 (by decide) ?_
          exact v_lret C hQ hr (Nat.le_of_ble_eq_true rfl) (Nat.le_of_ble_eq_true rfl) dL_join_50 ⟨by unfold sjn; simp [c1, c2, c3, c7], rfl⟩
    · have c2 := (nk_ne_f (a := kd) 1 (by decide) (by omega) (by decide)).mp c2
      refine v_lload_n C 1 rfl dL_join_15 rfl ?_
      refine v_lload_n C 2 rfl dL_join_16 rfl ?_
      refine v_lsub C dL_join_17 (v_eql (y := (x - y)) (rfl) ?_)
      refine v_goto (tgt := 50) C dL_join_18 (by decide) ?_
      exact v_lret C hQ hr (Nat.le_of_ble_eq_true rfl) (Nat.le_of_ble_eq_true rfl) dL_join_50 ⟨by unfold sjn; simp [c1, c2], rfl⟩
  · have c1 := (nk_ne_f (a := kd) 0 (by decide) (by omega) (by decide)).mp c1
    refine v_lload_n C 1 rfl dL_join_4 rfl ?_
    refine v_lload_n C 2 rfl dL_join_5 rfl ?_
    refine v_ladd C dL_join_6 (v_eql (y := (x + y)) (rfl) ?_)
    refine v_goto (tgt := 50) C dL_join_7 (by decide) ?_
    exact v_lret C hQ hr (Nat.le_of_ble_eq_true rfl) (Nat.le_of_ble_eq_true rfl) dL_join_50 ⟨by unfold sjn; simp [c1], rfl⟩
set_option maxHeartbeats 4000000 in
set_option maxRecDepth 100000 in
theorem c_L_front_7 (l : Launch) (hl : l.stackTraces = false) (G : zG) (n p : Nat) (h : zH) (hn : n ≤ 1000000) (hp : p < sb_dg n + 5) : zMet eI l yL_front cL_front 4 (some .int) 14 0 0 G [.int 7, .int (nI n), .int (nI p)] h (fun r h2 => r = nI ((dgl n ++ [37, 32, 111, 102, 32]).getD p 0) ∧ h = h2) := by
  refine con_of hl RL rfl (by decide +kernel) [(0, .int 7), (1, .int (nI n)), (2, .int (nI p))] rfl (Nat.le_of_ble_eq_true rfl) ?_
  intro zp ze zs zm zargs zbelow zmeth zc C hr hin Q hQ
  have hd7 := dg_le7 hn
  refine v_iload_n C 0 rfl dL_front_0 rfl ?_
  refine v_bipush (v := 7) C dL_front_1 (by decide) ?_
  refine v_icmp_ne (tgt := 57) C dL_front_3 (by decide) (fun c1 => absurd c1 (by decide)) (fun c1 => ?_)
  refine v_iload_n C 2 rfl dL_front_6 rfl ?_
  refine v_iload_n C 1 rfl dL_front_7 rfl ?_
  refine v_callS (rest := [.int (nI p)]) C (c_L_digits l hl G n h (by omega)) S_L_12 rfl rfl (Nat.le_of_ble_eq_true rfl) ⟨Nat.le_of_ble_eq_true rfl, Nat.le_of_ble_eq_true rfl⟩ ⟨Nat.le_of_ble_eq_true rfl, Nat.le_of_ble_eq_true rfl⟩ dL_front_8 (fun i2 h2 q2 => ?_)
  obtain ⟨e2, rfl⟩ := q2; subst e2
  refine v_isub C dL_front_11 (v_topi (fun i3 e3 => ?_))
  refine v_istore_n C [(3, .int i3), (0, .int 7), (1, .int (nI n)), (2, .int (nI p))] rfl (by decide) dL_front_12 rfl ?_
  refine v_iload_n C 0 rfl dL_front_13 rfl ?_
  refine v_if_ge (tgt := 25) C dL_front_14 (by decide) (fun c4 => ?_) (fun c4 => ?_)
  · rw [e3] at c4
    have c4 := (df_ge (a := p) (b := (sb_dg n)) (by omega) (by omega)).mp c4
    rw [pk_sub (by omega)] at e3; subst e3
    refine v_iload_n C 0 rfl dL_front_25 rfl ?_
    refine v_if_ne (tgt := 34) C dL_front_26 (by decide) (fun c5 => ?_) (fun c5 => ?_)
    · have c5 := (nk_ne (a := (p - sb_dg n)) 0 (by decide) (by omega) (by decide)).mp c5
      refine v_iload_n C 0 rfl dL_front_34 rfl ?_
      refine v_iconst (v := 2) C dL_front_35 (by decide) ?_
      refine v_icmp_ne (tgt := 44) C dL_front_36 (by decide) (fun c6 => ?_) (fun c6 => ?_)
      · have c6 := (nk_ne (a := (p - sb_dg n)) 2 (by decide) (by omega) (by decide)).mp c6
        refine v_iload_n C 0 rfl dL_front_44 rfl ?_
        refine v_iconst (v := 3) C dL_front_45 (by decide) ?_
        refine v_icmp_ne (tgt := 54) C dL_front_46 (by decide) (fun c7 => ?_) (fun c7 => ?_)
        · have c7 := (nk_ne (a := (p - sb_dg n)) 3 (by decide) (by omega) (by decide)).mp c7
          refine v_bipush (v := 32) C dL_front_54 (by decide) ?_
          exact v_iret C hQ hr rfl (Nat.le_of_ble_eq_true rfl) (Nat.le_of_ble_eq_true rfl) dL_front_56 ⟨by rw [gd_r (by rw [dgl_len]; omega), dgl_len]; rcases (show p - sb_dg n = 1 ∨ p - sb_dg n = 4 by omega) with z | z <;> rw [z] <;> rfl, rfl⟩
        · have c7 := (nk_ne_f (a := (p - sb_dg n)) 3 (by decide) (by omega) (by decide)).mp c7
          refine v_bipush (v := 102) C dL_front_49 (by decide) ?_
          refine v_goto (tgt := 56) C dL_front_51 (by decide) ?_
          exact v_iret C hQ hr rfl (Nat.le_of_ble_eq_true rfl) (Nat.le_of_ble_eq_true rfl) dL_front_56 ⟨by rw [gd_r (by rw [dgl_len]; omega), dgl_len, show p - sb_dg n = 3 by omega]; rfl, rfl⟩
      · have c6 := (nk_ne_f (a := (p - sb_dg n)) 2 (by decide) (by omega) (by decide)).mp c6
        refine v_bipush (v := 111) C dL_front_39 (by decide) ?_
        refine v_goto (tgt := 56) C dL_front_41 (by decide) ?_
        exact v_iret C hQ hr rfl (Nat.le_of_ble_eq_true rfl) (Nat.le_of_ble_eq_true rfl) dL_front_56 ⟨by rw [gd_r (by rw [dgl_len]; omega), dgl_len, show p - sb_dg n = 2 by omega]; rfl, rfl⟩
    · have c5 := (nk_ne_f (a := (p - sb_dg n)) 0 (by decide) (by omega) (by decide)).mp c5
      refine v_bipush (v := 37) C dL_front_29 (by decide) ?_
      refine v_goto (tgt := 56) C dL_front_31 (by decide) ?_
      exact v_iret C hQ hr rfl (Nat.le_of_ble_eq_true rfl) (Nat.le_of_ble_eq_true rfl) dL_front_56 ⟨by rw [gd_r (by rw [dgl_len]; omega), dgl_len, show p - sb_dg n = 0 by omega]; rfl, rfl⟩
  · rw [e3] at c4
    have c4 := (df_ge_f (a := p) (b := (sb_dg n)) (by omega) (by omega)).mp c4
    refine v_iload_n C 2 rfl dL_front_17 rfl ?_
    refine v_iload_n C 3 rfl dL_front_18 rfl ?_
    refine v_callS (rest := []) C (c_L_digit l hl G n p h (by omega) (by omega)) S_L_18 rfl rfl (Nat.le_of_ble_eq_true rfl) ⟨Nat.le_of_ble_eq_true rfl, Nat.le_of_ble_eq_true rfl⟩ ⟨Nat.le_of_ble_eq_true rfl, Nat.le_of_ble_eq_true rfl⟩ dL_front_19 (fun i8 h8 q8 => ?_)
    obtain ⟨e8, rfl⟩ := q8; subst e8
    refine v_goto (tgt := 56) C dL_front_22 (by decide) ?_
    exact v_iret C hQ hr rfl (Nat.le_of_ble_eq_true rfl) (Nat.le_of_ble_eq_true rfl) dL_front_56 ⟨by rw [gd_l (by rw [dgl_len]; omega), dgl_get (by omega)], rfl⟩
set_option maxHeartbeats 4000000 in
set_option maxRecDepth 100000 in
theorem c_L_front_8 (l : Launch) (hl : l.stackTraces = false) (G : zG) (n p : Nat) (h : zH) (hp : p < 5) : zMet eI l yL_front cL_front 4 (some .int) 12 0 0 G [.int 8, .int (nI n), .int (nI p)] h (fun r h2 => r = nI ([121, 101, 97, 114, 40].getD p 0) ∧ h = h2) := by
  refine con_of hl RL rfl (by decide +kernel) [(0, .int 8), (1, .int (nI n)), (2, .int (nI p))] rfl (Nat.le_of_ble_eq_true rfl) ?_
  intro zp ze zs zm zargs zbelow zmeth zc C hr hin Q hQ
  refine v_iload_n C 0 rfl dL_front_0 rfl ?_
  refine v_bipush (v := 7) C dL_front_1 (by decide) ?_
  refine v_icmp_ne (tgt := 57) C dL_front_3 (by decide) (fun c1 => ?_) (fun c1 => absurd c1 (by decide))
  refine v_iload_n C 0 rfl dL_front_57 rfl ?_
  refine v_bipush (v := 8) C dL_front_58 (by decide) ?_
  refine v_icmp_ne (tgt := 105) C dL_front_60 (by decide) (fun c2 => absurd c2 (by decide)) (fun c2 => ?_)
  refine v_iload_n C 2 rfl dL_front_63 rfl ?_
  refine v_if_ne (tgt := 72) C dL_front_64 (by decide) (fun c3 => ?_) (fun c3 => ?_)
  · have c3 := (nk_ne (a := p) 0 (by decide) (by omega) (by decide)).mp c3
    refine v_iload_n C 2 rfl dL_front_72 rfl ?_
    refine v_iconst (v := 1) C dL_front_73 (by decide) ?_
    refine v_icmp_ne (tgt := 82) C dL_front_74 (by decide) (fun c4 => ?_) (fun c4 => ?_)
    · have c4 := (nk_ne (a := p) 1 (by decide) (by omega) (by decide)).mp c4
      refine v_iload_n C 2 rfl dL_front_82 rfl ?_
      refine v_iconst (v := 2) C dL_front_83 (by decide) ?_
      refine v_icmp_ne (tgt := 92) C dL_front_84 (by decide) (fun c5 => ?_) (fun c5 => ?_)
      · have c5 := (nk_ne (a := p) 2 (by decide) (by omega) (by decide)).mp c5
        refine v_iload_n C 2 rfl dL_front_92 rfl ?_
        refine v_iconst (v := 3) C dL_front_93 (by decide) ?_
        refine v_icmp_ne (tgt := 102) C dL_front_94 (by decide) (fun c6 => ?_) (fun c6 => ?_)
        · have c6 := (nk_ne (a := p) 3 (by decide) (by omega) (by decide)).mp c6
          refine v_bipush (v := 40) C dL_front_102 (by decide) ?_
          exact v_iret C hQ hr rfl (Nat.le_of_ble_eq_true rfl) (Nat.le_of_ble_eq_true rfl) dL_front_104 ⟨by rw [show p = 4 by omega]; rfl, rfl⟩
        · have c6 := (nk_ne_f (a := p) 3 (by decide) (by omega) (by decide)).mp c6
          refine v_bipush (v := 114) C dL_front_97 (by decide) ?_
          refine v_goto (tgt := 104) C dL_front_99 (by decide) ?_
          exact v_iret C hQ hr rfl (Nat.le_of_ble_eq_true rfl) (Nat.le_of_ble_eq_true rfl) dL_front_104 ⟨by rw [show p = 3 by omega]; rfl, rfl⟩
      · have c5 := (nk_ne_f (a := p) 2 (by decide) (by omega) (by decide)).mp c5
        refine v_bipush (v := 97) C dL_front_87 (by decide) ?_
        refine v_goto (tgt := 104) C dL_front_89 (by decide) ?_
        exact v_iret C hQ hr rfl (Nat.le_of_ble_eq_true rfl) (Nat.le_of_ble_eq_true rfl) dL_front_104 ⟨by rw [show p = 2 by omega]; rfl, rfl⟩
    · have c4 := (nk_ne_f (a := p) 1 (by decide) (by omega) (by decide)).mp c4
      refine v_bipush (v := 101) C dL_front_77 (by decide) ?_
      refine v_goto (tgt := 104) C dL_front_79 (by decide) ?_
      exact v_iret C hQ hr rfl (Nat.le_of_ble_eq_true rfl) (Nat.le_of_ble_eq_true rfl) dL_front_104 ⟨by rw [show p = 1 by omega]; rfl, rfl⟩
  · have c3 := (nk_ne_f (a := p) 0 (by decide) (by omega) (by decide)).mp c3
    refine v_bipush (v := 121) C dL_front_67 (by decide) ?_
    refine v_goto (tgt := 104) C dL_front_69 (by decide) ?_
    exact v_iret C hQ hr rfl (Nat.le_of_ble_eq_true rfl) (Nat.le_of_ble_eq_true rfl) dL_front_104 ⟨by rw [show p = 0 by omega]; rfl, rfl⟩
set_option maxHeartbeats 4000000 in
set_option maxRecDepth 100000 in
theorem c_L_front_j (l : Launch) (hl : l.stackTraces = false) (G : zG) (kd n p : Nat) (h : zH) (hk4 : kd < 4) (hp : p < (fjn kd).length) : zMet eI l yL_front cL_front 4 (some .int) 12 0 0 G [.int (nI kd), .int (nI n), .int (nI p)] h (fun r h2 => r = nI ((fjn kd).getD p 0) ∧ h = h2) := by
  refine con_of hl RL rfl (by decide +kernel) [(0, .int (nI kd)), (1, .int (nI n)), (2, .int (nI p))] rfl (Nat.le_of_ble_eq_true rfl) ?_
  intro zp ze zs zm zargs zbelow zmeth zc C hr hin Q hQ
  rw [fjn_len hk4] at hp
  have hp4 : p < 4 := by split at hp <;> omega
  refine v_iload_n C 0 rfl dL_front_0 rfl ?_
  refine v_bipush (v := 7) C dL_front_1 (by decide) ?_
  refine v_icmp_ne (tgt := 57) C dL_front_3 (by decide) (fun c1 => ?_) (fun c1 => absurd ((nk_ne_f (a := kd) 7 (by decide) (by omega) (by decide)).mp c1) (by omega))
  have c1 := (nk_ne (a := kd) 7 (by decide) (by omega) (by decide)).mp c1
  refine v_iload_n C 0 rfl dL_front_57 rfl ?_
  refine v_bipush (v := 8) C dL_front_58 (by decide) ?_
  refine v_icmp_ne (tgt := 105) C dL_front_60 (by decide) (fun c2 => ?_) (fun c2 => absurd ((nk_ne_f (a := kd) 8 (by decide) (by omega) (by decide)).mp c2) (by omega))
  have c2 := (nk_ne (a := kd) 8 (by decide) (by omega) (by decide)).mp c2
  refine v_iload_n C 0 rfl dL_front_105 rfl ?_
  refine v_iconst (v := 2) C dL_front_106 (by decide) ?_
  refine v_icmp_lt (tgt := 115) C dL_front_107 (by decide) (fun c3 => ?_) (fun c3 => ?_)
  · have c3 := (nk_lt (a := kd) 2 (by decide) (by omega) (by decide)).mp c3
    refine v_bipush (v := 40) C dL_front_115 (by decide) ?_
    exact v_iret C hQ hr rfl (Nat.le_of_ble_eq_true rfl) (Nat.le_of_ble_eq_true rfl) dL_front_117 ⟨by (have zk : kd = 0 ∨ kd = 1 ∨ kd = 2 ∨ kd = 3 := by omega); (have zp : p = 0 ∨ p = 1 ∨ p = 2 ∨ p = 3 := by omega); rcases zk with rfl | rfl | rfl | rfl <;> rcases zp with rfl | rfl | rfl | rfl <;> first | rfl | (exfalso; omega) | (simp at hp), rfl⟩
  · have c3 := (nk_lt_f (a := kd) 2 (by decide) (by omega) (by decide)).mp c3
    refine v_iload_n C 2 rfl dL_front_110 rfl ?_
    refine v_iconst (v := 3) C dL_front_111 (by decide) ?_
    refine v_icmp_ne (tgt := 118) C dL_front_112 (by decide) (fun c4 => ?_) (fun c4 => ?_)
    · have c4 := (nk_ne (a := p) 3 (by decide) (by omega) (by decide)).mp c4
      refine v_iload_n C 2 rfl dL_front_118 rfl ?_
      refine v_if_ne (tgt := 127) C dL_front_119 (by decide) (fun c5 => ?_) (fun c5 => ?_)
      · have c5 := (nk_ne (a := p) 0 (by decide) (by omega) (by decide)).mp c5
        refine v_iload_n C 2 rfl dL_front_127 rfl ?_
        refine v_iconst (v := 1) C dL_front_128 (by decide) ?_
        refine v_icmp_ne (tgt := 147) C dL_front_129 (by decide) (fun c6 => ?_) (fun c6 => ?_)
        · have c6 := (nk_ne (a := p) 1 (by decide) (by omega) (by decide)).mp c6
          refine v_iload_n C 0 rfl dL_front_147 rfl ?_
          refine v_iconst (v := 2) C dL_front_148 (by decide) ?_
          refine v_icmp_ne (tgt := 157) C dL_front_149 (by decide) (fun c7 => ?_) (fun c7 => ?_)
          · have c7 := (nk_ne (a := kd) 2 (by decide) (by omega) (by decide)).mp c7
            refine v_bipush (v := 120) C dL_front_157 (by decide) ?_
            exact v_iret C hQ hr rfl (Nat.le_of_ble_eq_true rfl) (Nat.le_of_ble_eq_true rfl) dL_front_159 ⟨by (have zk : kd = 0 ∨ kd = 1 ∨ kd = 2 ∨ kd = 3 := by omega); (have zp : p = 0 ∨ p = 1 ∨ p = 2 ∨ p = 3 := by omega); rcases zk with rfl | rfl | rfl | rfl <;> rcases zp with rfl | rfl | rfl | rfl <;> first | rfl | (exfalso; omega) | (simp at hp), rfl⟩
          · have c7 := (nk_ne_f (a := kd) 2 (by decide) (by omega) (by decide)).mp c7
            refine v_bipush (v := 110) C dL_front_152 (by decide) ?_
            refine v_goto (tgt := 159) C dL_front_154 (by decide) ?_
            exact v_iret C hQ hr rfl (Nat.le_of_ble_eq_true rfl) (Nat.le_of_ble_eq_true rfl) dL_front_159 ⟨by (have zk : kd = 0 ∨ kd = 1 ∨ kd = 2 ∨ kd = 3 := by omega); (have zp : p = 0 ∨ p = 1 ∨ p = 2 ∨ p = 3 := by omega); rcases zk with rfl | rfl | rfl | rfl <;> rcases zp with rfl | rfl | rfl | rfl <;> first | rfl | (exfalso; omega) | (simp at hp), rfl⟩
        · have c6 := (nk_ne_f (a := p) 1 (by decide) (by omega) (by decide)).mp c6
          refine v_iload_n C 0 rfl dL_front_132 rfl ?_
          refine v_iconst (v := 2) C dL_front_133 (by decide) ?_
          refine v_icmp_ne (tgt := 142) C dL_front_134 (by decide) (fun c8 => ?_) (fun c8 => ?_)
          · have c8 := (nk_ne (a := kd) 2 (by decide) (by omega) (by decide)).mp c8
            refine v_bipush (v := 97) C dL_front_142 (by decide) ?_
            refine v_goto (tgt := 159) C dL_front_144 (by decide) ?_
            exact v_iret C hQ hr rfl (Nat.le_of_ble_eq_true rfl) (Nat.le_of_ble_eq_true rfl) dL_front_159 ⟨by (have zk : kd = 0 ∨ kd = 1 ∨ kd = 2 ∨ kd = 3 := by omega); (have zp : p = 0 ∨ p = 1 ∨ p = 2 ∨ p = 3 := by omega); rcases zk with rfl | rfl | rfl | rfl <;> rcases zp with rfl | rfl | rfl | rfl <;> first | rfl | (exfalso; omega) | (simp at hp), rfl⟩
          · have c8 := (nk_ne_f (a := kd) 2 (by decide) (by omega) (by decide)).mp c8
            refine v_bipush (v := 105) C dL_front_137 (by decide) ?_
            refine v_goto (tgt := 159) C dL_front_139 (by decide) ?_
            exact v_iret C hQ hr rfl (Nat.le_of_ble_eq_true rfl) (Nat.le_of_ble_eq_true rfl) dL_front_159 ⟨by (have zk : kd = 0 ∨ kd = 1 ∨ kd = 2 ∨ kd = 3 := by omega); (have zp : p = 0 ∨ p = 1 ∨ p = 2 ∨ p = 3 := by omega); rcases zk with rfl | rfl | rfl | rfl <;> rcases zp with rfl | rfl | rfl | rfl <;> first | rfl | (exfalso; omega) | (simp at hp), rfl⟩
      · have c5 := (nk_ne_f (a := p) 0 (by decide) (by omega) (by decide)).mp c5
        refine v_bipush (v := 109) C dL_front_122 (by decide) ?_
        refine v_goto (tgt := 159) C dL_front_124 (by decide) ?_
        exact v_iret C hQ hr rfl (Nat.le_of_ble_eq_true rfl) (Nat.le_of_ble_eq_true rfl) dL_front_159 ⟨by (have zk : kd = 0 ∨ kd = 1 ∨ kd = 2 ∨ kd = 3 := by omega); (have zp : p = 0 ∨ p = 1 ∨ p = 2 ∨ p = 3 := by omega); rcases zk with rfl | rfl | rfl | rfl <;> rcases zp with rfl | rfl | rfl | rfl <;> first | rfl | (exfalso; omega) | (simp at hp), rfl⟩
    · have c4 := (nk_ne_f (a := p) 3 (by decide) (by omega) (by decide)).mp c4
      refine v_bipush (v := 40) C dL_front_115 (by decide) ?_
      exact v_iret C hQ hr rfl (Nat.le_of_ble_eq_true rfl) (Nat.le_of_ble_eq_true rfl) dL_front_117 ⟨by (have zk : kd = 0 ∨ kd = 1 ∨ kd = 2 ∨ kd = 3 := by omega); (have zp : p = 0 ∨ p = 1 ∨ p = 2 ∨ p = 3 := by omega); rcases zk with rfl | rfl | rfl | rfl <;> rcases zp with rfl | rfl | rfl | rfl <;> first | rfl | (exfalso; omega) | (simp at hp), rfl⟩

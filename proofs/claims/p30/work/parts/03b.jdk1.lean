theorem G_J0_9w : Cond.fieldLink RJ0 9 "java/lang/String" "value" "[B" ∈ zT := (zT_of 503 (by decide +kernel) (by decide +kernel))
theorem G_J0_15w : Cond.fieldLink RJ0 15 "java/lang/String" "coder" "B" ∈ zT := (zT_of 504 (by decide +kernel) (by decide +kernel))
set_option maxHeartbeats 4000000 in
set_option maxRecDepth 100000 in
theorem c_J0_coder_7d493 (l : Launch) (hl : l.stackTraces = false) (G : zG) (a b n : Nat) (f : Nat → Int32) (h : zH) (ht : zTx G h a b n f) : zMet eI l yJ0_coder_7d493 cJ0_coder_7d493 1 (some .byte) 12 0 0 G [.ref a] h (fun r h2 => r = 0 ∧ h = h2) := by
  refine con_of hl RJ0 rfl (by decide +kernel) [(0, .ref a)] rfl (Nat.le_of_ble_eq_true rfl) ?_
  intro zp ze zs zm zargs zbelow zmeth zc C hr hin Q hQ
  refine v_gets C C.2.2.2.2.2.2.1.1.1 G_J0_38 dJ0_coder_7d493_0 ?_
  refine v_if_eq (tgt := 13) C dJ0_coder_7d493_3 (by decide) (fun c1 => absurd c1 (by decide)) (fun c1 => ?_)
  refine v_aload_n C 0 rfl dJ0_coder_7d493_6 rfl ?_
  refine v_getSC C ht F_J0_15 G_J0_15w dJ0_coder_7d493_7 ?_
  refine v_goto (tgt := 14) C dJ0_coder_7d493_10 (by decide) ?_
  exact v_iret C hQ hr rfl (Nat.le_of_ble_eq_true rfl) (Nat.le_of_ble_eq_true rfl) dJ0_coder_7d493_14 ⟨rfl, rfl⟩
set_option maxHeartbeats 4000000 in
set_option maxRecDepth 100000 in
theorem c_J0_isLatin1_aae02 (l : Launch) (hl : l.stackTraces = false) (G : zG) (a b n : Nat) (f : Nat → Int32) (h : zH) (ht : zTx G h a b n f) : zMet eI l yJ0_isLatin1_aae02 cJ0_isLatin1_aae02 1 (some .boolean) 12 0 0 G [.ref a] h (fun r h2 => r = 1 ∧ h = h2) := by
  refine con_of hl RJ0 rfl (by decide +kernel) [(0, .ref a)] rfl (Nat.le_of_ble_eq_true rfl) ?_
  intro zp ze zs zm zargs zbelow zmeth zc C hr hin Q hQ
  refine v_gets C C.2.2.2.2.2.2.1.1.1 G_J0_38 dJ0_isLatin1_aae02_0 ?_
  refine v_if_eq (tgt := 17) C dJ0_isLatin1_aae02_3 (by decide) (fun c1 => absurd c1 (by decide)) (fun c1 => ?_)
  refine v_aload_n C 0 rfl dJ0_isLatin1_aae02_6 rfl ?_
  refine v_getSC C ht F_J0_15 G_J0_15w dJ0_isLatin1_aae02_7 ?_
  refine v_if_ne (tgt := 17) C dJ0_isLatin1_aae02_10 (by decide) (fun c2 => absurd c2 (by decide)) (fun c2 => ?_)
  refine v_iconst (v := 1) C dJ0_isLatin1_aae02_13 (by decide) ?_
  refine v_goto (tgt := 18) C dJ0_isLatin1_aae02_14 (by decide) ?_
  exact v_iret C hQ hr rfl (Nat.le_of_ble_eq_true rfl) (Nat.le_of_ble_eq_true rfl) dJ0_isLatin1_aae02_18 ⟨rfl, rfl⟩
set_option maxHeartbeats 4000000 in
set_option maxRecDepth 100000 in
theorem c_J0_length_8abf5 (l : Launch) (hl : l.stackTraces = false) (G : zG) (a b n : Nat) (f : Nat → Int32) (h : zH) (ht : zTx G h a b n f) : zMet eI l yJ0_length_8abf5 cJ0_length_8abf5 1 (some .int) 13 0 0 G [.ref a] h (fun r h2 => r = nI n ∧ h = h2) := by
  refine con_of hl RJ0 rfl (by decide +kernel) [(0, .ref a)] rfl (Nat.le_of_ble_eq_true rfl) ?_
  intro zp ze zs zm zargs zbelow zmeth zc C hr hin Q hQ
  refine v_aload_n C 0 rfl dJ0_length_8abf5_0 rfl ?_
  refine v_getSV C ht F_J0_9 G_J0_9w dJ0_length_8abf5_1 ?_
  refine v_alenT C (zTx.tb ht) dJ0_length_8abf5_4 ?_
  refine v_aload_n C 0 rfl dJ0_length_8abf5_5 rfl ?_
  refine v_callT (rest := [.int (nI n)]) C (c_J0_coder_7d493 l hl G a b n f h ht) K_J0_335 ht rfl rfl (Nat.le_of_ble_eq_true rfl) ⟨Nat.le_of_ble_eq_true rfl, Nat.le_of_ble_eq_true rfl⟩ ⟨Nat.le_of_ble_eq_true rfl, Nat.le_of_ble_eq_true rfl⟩ dJ0_length_8abf5_6 (fun i1 h1 q1 => ?_)
  obtain ⟨e1, rfl⟩ := q1; subst e1
  refine v_ishr C dJ0_length_8abf5_9 (v_eqi (i_shr0 n) ?_)
  exact v_iret C hQ hr rfl (Nat.le_of_ble_eq_true rfl) (Nat.le_of_ble_eq_true rfl) dJ0_length_8abf5_10 ⟨rfl, rfl⟩
set_option maxHeartbeats 4000000 in
set_option maxRecDepth 100000 in
theorem c_J3_checkIndex_n (l : Launch) (hl : l.stackTraces = false) (G : zG) (j N : Nat) (h : zH) (hj : j < N) (hN : N < 2 ^ 31) : zMet eI l yJ3_checkIndex_8e157 cJ3_checkIndex_8e157 3 (some .int) 12 0 0 G [.int (nI j), .int (nI N), .null] h (fun r h2 => r = nI j ∧ h = h2) := by
  refine con_of hl RJ3 rfl (by decide +kernel) [(0, .int (nI j)), (1, .int (nI N)), (2, .null)] rfl (Nat.le_of_ble_eq_true rfl) ?_
  intro zp ze zs zm zargs zbelow zmeth zc C hr hin Q hQ
  refine v_iload_n C 0 rfl dJ3_checkIndex_8e157_0 rfl ?_
  refine v_if_lt (tgt := 9) C dJ3_checkIndex_8e157_1 (by decide) (fun c1 => absurd c1 (nI_pos (by omega))) (fun c1 => ?_)
  have c1 := (nk_lt_f (a := j) 0 (by decide) (by omega) (by decide)).mp c1
  refine v_iload_n C 0 rfl dJ3_checkIndex_8e157_4 rfl ?_
  refine v_iload_n C 1 rfl dJ3_checkIndex_8e157_5 rfl ?_
  refine v_icmp_lt (tgt := 16) C dJ3_checkIndex_8e157_6 (by decide) (fun c2 => ?_) (fun c2 => absurd (nI_lt hj hN) c2)
  have c2 := (nn_lt (a := j) (b := N) (by omega) (by omega)).mp c2
  refine v_iload_n C 0 rfl dJ3_checkIndex_8e157_16 rfl ?_
  exact v_iret C hQ hr rfl (Nat.le_of_ble_eq_true rfl) (Nat.le_of_ble_eq_true rfl) dJ3_checkIndex_8e157_17 ⟨rfl, rfl⟩
set_option maxHeartbeats 4000000 in
set_option maxRecDepth 100000 in
theorem c_J3_checkIndex_r (l : Launch) (hl : l.stackTraces = false) (G : zG) (j N t : Nat) (h : zH) (hj : j < N) (hN : N < 2 ^ 31) : zMet eI l yJ3_checkIndex_8e157 cJ3_checkIndex_8e157 3 (some .int) 12 0 0 G [.int (nI j), .int (nI N), .ref t] h (fun r h2 => r = nI j ∧ h = h2) := by
  refine con_of hl RJ3 rfl (by decide +kernel) [(0, .int (nI j)), (1, .int (nI N)), (2, .ref t)] rfl (Nat.le_of_ble_eq_true rfl) ?_
  intro zp ze zs zm zargs zbelow zmeth zc C hr hin Q hQ
  refine v_iload_n C 0 rfl dJ3_checkIndex_8e157_0 rfl ?_
  refine v_if_lt (tgt := 9) C dJ3_checkIndex_8e157_1 (by decide) (fun c1 => absurd c1 (nI_pos (by omega))) (fun c1 => ?_)
  have c1 := (nk_lt_f (a := j) 0 (by decide) (by omega) (by decide)).mp c1
  refine v_iload_n C 0 rfl dJ3_checkIndex_8e157_4 rfl ?_
  refine v_iload_n C 1 rfl dJ3_checkIndex_8e157_5 rfl ?_
  refine v_icmp_lt (tgt := 16) C dJ3_checkIndex_8e157_6 (by decide) (fun c2 => ?_) (fun c2 => absurd (nI_lt hj hN) c2)
  have c2 := (nn_lt (a := j) (b := N) (by omega) (by omega)).mp c2
  refine v_iload_n C 0 rfl dJ3_checkIndex_8e157_16 rfl ?_
  exact v_iret C hQ hr rfl (Nat.le_of_ble_eq_true rfl) (Nat.le_of_ble_eq_true rfl) dJ3_checkIndex_8e157_17 ⟨rfl, rfl⟩
set_option maxHeartbeats 4000000 in
set_option maxRecDepth 100000 in
theorem c_J15_checkIndex_7cf53 (l : Launch) (hl : l.stackTraces = false) (G : zG) (j N : Nat) (h : zH) (hj : j < N) (hN : N < 2 ^ 31) : zMet eI l yJ15_checkIndex_7cf53 cJ15_checkIndex_7cf53 2 (some .int) 13 0 0 G [.int (nI j), .int (nI N)] h (fun r h2 => r = nI j ∧ h = h2) := by
  refine con_of hl RJ15 rfl (by decide +kernel) [(0, .int (nI j)), (1, .int (nI N))] rfl (Nat.le_of_ble_eq_true rfl) ?_
  intro zp ze zs zm zargs zbelow zmeth zc C hr hin Q hQ
  refine v_iload_n C 0 rfl dJ15_checkIndex_7cf53_0 rfl ?_
  refine v_iload_n C 1 rfl dJ15_checkIndex_7cf53_1 rfl ?_
  refine v_null C dJ15_checkIndex_7cf53_2 ?_
  refine v_callS (rest := []) C (c_J3_checkIndex_n l hl G j N h hj hN) S_J15_105 rfl rfl (Nat.le_of_ble_eq_true rfl) ⟨Nat.le_of_ble_eq_true rfl, Nat.le_of_ble_eq_true rfl⟩ ⟨Nat.le_of_ble_eq_true rfl, Nat.le_of_ble_eq_true rfl⟩ dJ15_checkIndex_7cf53_3 (fun i1 h1 q1 => ?_)
  obtain ⟨e1, rfl⟩ := q1; subst e1
  exact v_iret C hQ hr rfl (Nat.le_of_ble_eq_true rfl) (Nat.le_of_ble_eq_true rfl) dJ15_checkIndex_7cf53_6 ⟨rfl, rfl⟩
set_option maxHeartbeats 4000000 in
set_option maxRecDepth 100000 in
theorem c_J0_checkIndex_df160 (l : Launch) (hl : l.stackTraces = false) (G : zG) (j N : Nat) (h : zH) (hj : j < N) (hN : N < 2 ^ 31) : zMet eV l yJ0_checkIndex_df160 cJ0_checkIndex_df160 2 none 13 0 0 G [.int (nI j), .int (nI N)] h (fun _ h2 => h = h2) := by
  refine con_of hl RJ0 rfl (by decide +kernel) [(0, .int (nI j)), (1, .int (nI N))] rfl (Nat.le_of_ble_eq_true rfl) ?_
  intro zp ze zs zm zargs zbelow zmeth zc C hr hin Q hQ
  refine v_iload_n C 0 rfl dJ0_checkIndex_df160_0 rfl ?_
  refine v_iload_n C 1 rfl dJ0_checkIndex_df160_1 rfl ?_
  refine v_getsq C C.2.2.2.2.2.2.1.2.1.1 G_J0_1053 dJ0_checkIndex_df160_2 (fun v1 w1 => ?_)
  rcases w1 with rfl | ⟨t1, rfl⟩
  · refine v_callS (rest := []) C (c_J3_checkIndex_n l hl G j N h hj hN) S_J0_1059 rfl rfl (Nat.le_of_ble_eq_true rfl) ⟨Nat.le_of_ble_eq_true rfl, Nat.le_of_ble_eq_true rfl⟩ ⟨Nat.le_of_ble_eq_true rfl, Nat.le_of_ble_eq_true rfl⟩ dJ0_checkIndex_df160_5 (fun i2 h2 q2 => ?_)
    obtain ⟨e2, rfl⟩ := q2; subst e2
    refine v_pop C dJ0_checkIndex_df160_8 rfl ?_
    exact v_vret C hQ hr (Nat.le_of_ble_eq_true rfl) (Nat.le_of_ble_eq_true rfl) dJ0_checkIndex_df160_9 rfl
  · refine v_callS (rest := []) C (c_J3_checkIndex_r l hl G j N t1 h hj hN) S_J0_1059 rfl rfl (Nat.le_of_ble_eq_true rfl) ⟨Nat.le_of_ble_eq_true rfl, Nat.le_of_ble_eq_true rfl⟩ ⟨Nat.le_of_ble_eq_true rfl, Nat.le_of_ble_eq_true rfl⟩ dJ0_checkIndex_df160_5 (fun i3 h3 q3 => ?_)
    obtain ⟨e3, rfl⟩ := q3; subst e3
    refine v_pop C dJ0_checkIndex_df160_8 rfl ?_
    exact v_vret C hQ hr (Nat.le_of_ble_eq_true rfl) (Nat.le_of_ble_eq_true rfl) dJ0_checkIndex_df160_9 rfl
theorem ch_asc {c : Nat} (h : c < 128) : ((nI c &&& 255).toUInt32 % 65536).toInt32 = nI c := by
  have k : ∀ c, c < 128 → ((nI c &&& 255).toUInt32 % 65536).toInt32 = nI c := by decide +kernel
  exact k c h
theorem ch_nar {c : Nat} (h : c < 128) : narrow .char (.int (nI c)) = .int (nI c) := by
  have k : ∀ c, c < 128 → narrow .char (.int (nI c)) = .int (nI c) := by decide +kernel
  exact k c h
set_option maxHeartbeats 4000000 in
set_option maxRecDepth 100000 in
theorem c_J1_charAt_3b067 (l : Launch) (hl : l.stackTraces = false) (G : zG) (b n j c : Nat) (f : Nat → Int32) (h : zH) (hb : zTB G h b n f) (hj : j < n) (hn : n < 2 ^ 31) (hc : c < 128) (hf : f j = nI c) : zMet eI l yJ1_charAt_3b067 cJ1_charAt_3b067 2 (some .char) 14 0 0 G [.ref b, .int (nI j)] h (fun r h2 => r = nI c ∧ h = h2) := by
  refine con_of hl RJ1 rfl (by decide +kernel) [(0, .ref b), (1, .int (nI j))] rfl (Nat.le_of_ble_eq_true rfl) ?_
  intro zp ze zs zm zargs zbelow zmeth zc C hr hin Q hQ
  refine v_iload_n C 1 rfl dJ1_charAt_3b067_0 rfl ?_
  refine v_aload_n C 0 rfl dJ1_charAt_3b067_1 rfl ?_
  refine v_alenT C hb dJ1_charAt_3b067_2 ?_
  refine v_callS (rest := []) C (c_J0_checkIndex_df160 l hl G j n h hj hn) S_J1_9 rfl rfl (Nat.le_of_ble_eq_true rfl) ⟨Nat.le_of_ble_eq_true rfl, Nat.le_of_ble_eq_true rfl⟩ ⟨Nat.le_of_ble_eq_true rfl, Nat.le_of_ble_eq_true rfl⟩ dJ1_charAt_3b067_3 (fun _ h1 q1 => ?_)
  subst q1
  refine v_aload_n C 0 rfl dJ1_charAt_3b067_6 rfl ?_
  refine v_iload_n C 1 rfl dJ1_charAt_3b067_7 rfl ?_
  refine v_baldT C hb (vpin hj (by omega)) dJ1_charAt_3b067_8 (v_topi (fun i2 e2 => ?_))
  refine v_sipush (v := 255) C dJ1_charAt_3b067_9 (by decide) ?_
  refine v_iand C dJ1_charAt_3b067_12 (v_topi (fun i3 e3 => ?_))
  refine v_i2c C dJ1_charAt_3b067_13 rfl (v_topi (fun i4 e4 => ?_))
  have e9 : i4 = nI c := by rw [e4, e3, e2, nI_clamp (by omega), hf]; exact ch_asc hc
  rw [e9]
  exact v_iret C hQ hr (ch_nar hc) (Nat.le_of_ble_eq_true rfl) (Nat.le_of_ble_eq_true rfl) dJ1_charAt_3b067_14 ⟨rfl, rfl⟩
set_option maxHeartbeats 4000000 in
set_option maxRecDepth 100000 in
theorem c_J0_charAt_5068e (l : Launch) (hl : l.stackTraces = false) (G : zG) (a b n j c : Nat) (f : Nat → Int32) (h : zH) (ht : zTx G h a b n f) (hj : j < n) (hn : n < 2 ^ 31) (hc : c < 128) (hf : f j = nI c) : zMet eI l yJ0_charAt_5068e cJ0_charAt_5068e 2 (some .char) 15 0 0 G [.ref a, .int (nI j)] h (fun r h2 => r = nI c ∧ h = h2) := by
  refine con_of hl RJ0 rfl (by decide +kernel) [(0, .ref a), (1, .int (nI j))] rfl (Nat.le_of_ble_eq_true rfl) ?_
  intro zp ze zs zm zargs zbelow zmeth zc C hr hin Q hQ
  refine v_aload_n C 0 rfl dJ0_charAt_5068e_0 rfl ?_
  refine v_callT (rest := []) C (c_J0_isLatin1_aae02 l hl G a b n f h ht) K_J0_492 ht rfl rfl (Nat.le_of_ble_eq_true rfl) ⟨Nat.le_of_ble_eq_true rfl, Nat.le_of_ble_eq_true rfl⟩ ⟨Nat.le_of_ble_eq_true rfl, Nat.le_of_ble_eq_true rfl⟩ dJ0_charAt_5068e_1 (fun i1 h1 q1 => ?_)
  obtain ⟨e1, rfl⟩ := q1; subst e1
  refine v_if_eq (tgt := 16) C dJ0_charAt_5068e_4 (by decide) (fun c2 => absurd c2 (by decide)) (fun c2 => ?_)
  refine v_aload_n C 0 rfl dJ0_charAt_5068e_7 rfl ?_
  refine v_getSV C ht F_J0_9 G_J0_9w dJ0_charAt_5068e_8 ?_
  refine v_iload_n C 1 rfl dJ0_charAt_5068e_11 rfl ?_
  refine v_callS (rest := []) C (c_J1_charAt_3b067 l hl G b n j c f h (zTx.tb ht) hj hn hc hf) S_J0_495 rfl rfl (Nat.le_of_ble_eq_true rfl) ⟨Nat.le_of_ble_eq_true rfl, Nat.le_of_ble_eq_true rfl⟩ ⟨Nat.le_of_ble_eq_true rfl, Nat.le_of_ble_eq_true rfl⟩ dJ0_charAt_5068e_12 (fun i3 h3 q3 => ?_)
  obtain ⟨e3, rfl⟩ := q3; subst e3
  exact v_iret C hQ hr (ch_nar hc) (Nat.le_of_ble_eq_true rfl) (Nat.le_of_ble_eq_true rfl) dJ0_charAt_5068e_15 ⟨rfl, rfl⟩
set_option maxHeartbeats 4000000 in
set_option maxRecDepth 100000 in
theorem c_J1_canEncode_fc78d (l : Launch) (hl : l.stackTraces = false) (G : zG) (c : Nat) (h : zH) (hc : c < 128) : zMet eI l yJ1_canEncode_fc78d cJ1_canEncode_fc78d 1 (some .boolean) 12 0 0 G [.int (nI c)] h (fun r h2 => r = 1 ∧ h = h2) := by
  refine con_of hl RJ1 rfl (by decide +kernel) [(0, .int (nI c))] rfl (Nat.le_of_ble_eq_true rfl) ?_
  intro zp ze zs zm zargs zbelow zmeth zc C hr hin Q hQ
  refine v_iload_n C 0 rfl dJ1_canEncode_fc78d_0 rfl ?_
  refine v_sipush (v := 255) C dJ1_canEncode_fc78d_1 (by decide) ?_
  refine v_icmp_gt (tgt := 11) C dJ1_canEncode_fc78d_4 (by decide) (fun c1 => absurd (show (255 : Int32) < nI c from c1) (nI_nlt (a := 255) (by omega) (by decide))) (fun c1 => ?_)
  have c1 := (nk_gt_f (a := c) 255 (by decide) (by omega) (by decide)).mp c1
  refine v_iconst (v := 1) C dJ1_canEncode_fc78d_7 (by decide) ?_
  refine v_goto (tgt := 12) C dJ1_canEncode_fc78d_8 (by decide) ?_
  exact v_iret C hQ hr rfl (Nat.le_of_ble_eq_true rfl) (Nat.le_of_ble_eq_true rfl) dJ1_canEncode_fc78d_12 ⟨rfl, rfl⟩
set_option maxHeartbeats 4000000 in
set_option maxRecDepth 100000 in
theorem c_J7_fill_d0a16 (l : Launch) (hl : l.stackTraces = false) (G : zG) (a n : Nat) (f : Nat → Int64) (v : Int64) (h : zH) (hA : h a = some (.inl (gc G 1, n, .inr (.inl f)))) (hn : n < 2 ^ 31) : zMet eV l yJ7_fill_d0a16 cJ7_fill_d0a16 5 none 12 0 0 G [.ref a, .long v] h (fun _ h2 => ∃ f2, h2 a = some (.inl (gc G 1, n, .inr (.inl f2))) ∧ (∀ b, b ≠ a → h2 b = h b) ∧ ∀ j, j < n → f2 j = v) := by
  refine con_of hl RJ7 rfl (by decide +kernel) [(0, .ref a), (1, .long v)] rfl (Nat.le_of_ble_eq_true rfl) ?_
  intro zp ze zs zm zargs zbelow zmeth zc C hr hin Q hQ
  refine v_iconst (v := (nI 0)) C dJ7_fill_d0a16_0 (by decide) ?_
  refine v_istore_n C [(3, .int (nI 0)), (0, .ref a), (1, .long v)] rfl (by decide) dJ7_fill_d0a16_1 rfl ?_
  refine v_aload_n C 1 rfl dJ7_fill_d0a16_2 rfl ?_
  refine v_alen (v := nI n) C 1 rfl hA rfl dJ7_fill_d0a16_3 ?_
  refine v_istore C [(4, .int (nI n)), (3, .int (nI 0)), (0, .ref a), (1, .long v)] rfl (by decide) dJ7_fill_d0a16_4 ?_
  have L1 : ∀ (d : Nat) (i : Nat) (f2 : Nat → Int64) (h2 : zH), (i ≤ n) → (h2 a = some (.inl (gc G 1, n, .inr (.inl f2)))) → (∀ b, b ≠ a → h2 b = h b) → (∀ j, j < i → f2 j = v) → (n + 1 ≤ i + d) → V zp l ze (rmm 12 0 0) zs zm zargs zbelow zmeth zc G 5 Q h2 (0) (0) 6 [(0, .ref a), (1, .long v), (3, .int (nI i)), (4, .int (nI n))] [] := by
    intro d
    induction d with
    | zero =>
      intro i f2 h2 hi hA hK hf hd
      exact absurd hd (by omega)
    | succ d ih1 =>
      intro i f2 h2 hi hA hK hf hd
      refine v_iload_n C 2 rfl dJ7_fill_d0a16_6 rfl ?_
      refine v_iload C 3 rfl dJ7_fill_d0a16_7 ?_
      refine v_icmp_ge (tgt := 22) C dJ7_fill_d0a16_9 (by decide) (fun c2 => ?_) (fun c2 => ?_)
      · have c2 := (nn_ge (a := i) (b := n) (by omega) (by omega)).mp c2
        exact v_vret C hQ hr (Nat.le_of_ble_eq_true rfl) (Nat.le_of_ble_eq_true rfl) dJ7_fill_d0a16_22 ⟨f2, hA, hK, fun j hj => hf j (by omega)⟩
      · have c2 := (nn_ge_f (a := i) (b := n) (by omega) (by omega)).mp c2
        refine v_aload_n C 0 rfl dJ7_fill_d0a16_12 rfl ?_
        refine v_iload_n C 2 rfl dJ7_fill_d0a16_13 rfl ?_
        refine v_lload_n C 1 rfl dJ7_fill_d0a16_14 rfl ?_
        refine v_last C hA (vpin (by omega) hn) dJ7_fill_d0a16_15 (v_nw (fun h3 eh3 => ?_))
        have k4 : h3 a = some (.inl (gc G 1, n, .inr (.inl (vp_updL f2 (nI i).toNatClampNeg v)))) := by rw [eh3]; exact zup_self _ _ _
        have fq : ∀ j, j < i + 1 → (vp_updL f2 (nI i).toNatClampNeg v) j = v := fun j hj => by
            rw [nI_clamp (by omega)]
            by_cases q : j = i
            · subst q; exact pk_uLs
            · rw [pk_uLn q]; exact hf j (by omega)
        refine v_iinc C 2 [(3, .int (nI (i + 1))), (0, .ref a), (1, .long v), (4, .int (nI n))] rfl (nI_inc i 1 (by decide)) rfl (by decide) dJ7_fill_d0a16_16 ?_
        refine v_goto (tgt := 6) C dJ7_fill_d0a16_19 (by decide) ?_
        refine v_lvp [1, 2, 0, 3] rfl ?_
        exact ih1 (i + 1) _ h3 (by omega) k4 (fun b hb => by rw [eh3, zup_ne _ _ hb]; exact hK b hb) (fun j hj => fq j hj) (by omega)
  refine v_lvp [2, 3, 1, 0] rfl ?_
  exact L1 (n + 1) 0 f h (by omega) hA (fun _ _ => rfl) (fun j hj => absurd hj (by omega)) (by omega)
set_option maxHeartbeats 4000000 in
set_option maxRecDepth 100000 in
theorem c_J7_fill_53178 (l : Launch) (hl : l.stackTraces = false) (G : zG) (a n : Nat) (f : Nat → Int32) (v : Int32) (h : zH) (hA : h a = some (.inl (gc G 0, n, .inl f))) (hn : n < 2 ^ 31) : zMet eV l yJ7_fill_53178 cJ7_fill_53178 4 none 12 0 0 G [.ref a, .int v] h (fun _ h2 => ∃ f2, h2 a = some (.inl (gc G 0, n, .inl f2)) ∧ (∀ b, b ≠ a → h2 b = h b) ∧ ∀ j, j < n → f2 j = v) := by
  refine con_of hl RJ7 rfl (by decide +kernel) [(0, .ref a), (1, .int v)] rfl (Nat.le_of_ble_eq_true rfl) ?_
  intro zp ze zs zm zargs zbelow zmeth zc C hr hin Q hQ
  refine v_iconst (v := (nI 0)) C dJ7_fill_53178_0 (by decide) ?_
  refine v_istore_n C [(2, .int (nI 0)), (0, .ref a), (1, .int v)] rfl (by decide) dJ7_fill_53178_1 rfl ?_
  refine v_aload_n C 1 rfl dJ7_fill_53178_2 rfl ?_
  refine v_alen (v := nI n) C 0 rfl hA rfl dJ7_fill_53178_3 ?_
  refine v_istore_n C [(3, .int (nI n)), (2, .int (nI 0)), (0, .ref a), (1, .int v)] rfl (by decide) dJ7_fill_53178_4 rfl ?_
  have L1 : ∀ (d : Nat) (i : Nat) (f2 : Nat → Int32) (h2 : zH), (i ≤ n) → (h2 a = some (.inl (gc G 0, n, .inl f2))) → (∀ b, b ≠ a → h2 b = h b) → (∀ j, j < i → f2 j = v) → (n + 1 ≤ i + d) → V zp l ze (rmm 12 0 0) zs zm zargs zbelow zmeth zc G 4 Q h2 (0) (0) 5 [(0, .ref a), (1, .int v), (2, .int (nI i)), (3, .int (nI n))] [] := by
    intro d
    induction d with
    | zero =>
      intro i f2 h2 hi hA hK hf hd
      exact absurd hd (by omega)
    | succ d ih1 =>
      intro i f2 h2 hi hA hK hf hd
      refine v_iload_n C 2 rfl dJ7_fill_53178_5 rfl ?_
      refine v_iload_n C 3 rfl dJ7_fill_53178_6 rfl ?_
      refine v_icmp_ge (tgt := 20) C dJ7_fill_53178_7 (by decide) (fun c2 => ?_) (fun c2 => ?_)
      · have c2 := (nn_ge (a := i) (b := n) (by omega) (by omega)).mp c2
        exact v_vret C hQ hr (Nat.le_of_ble_eq_true rfl) (Nat.le_of_ble_eq_true rfl) dJ7_fill_53178_20 ⟨f2, hA, hK, fun j hj => hf j (by omega)⟩
      · have c2 := (nn_ge_f (a := i) (b := n) (by omega) (by omega)).mp c2
        refine v_aload_n C 0 rfl dJ7_fill_53178_10 rfl ?_
        refine v_iload_n C 2 rfl dJ7_fill_53178_11 rfl ?_
        refine v_iload_n C 1 rfl dJ7_fill_53178_12 rfl ?_
        refine v_iast C hA (vpin (by omega) hn) dJ7_fill_53178_13 (v_nw (fun h3 eh3 => ?_))
        have k4 : h3 a = some (.inl (gc G 0, n, .inl (upd f2 (nI i).toNatClampNeg v))) := by rw [eh3]; exact zup_self _ _ _
        have fq : ∀ j, j < i + 1 → (upd f2 (nI i).toNatClampNeg v) j = v := fun j hj => by
            rw [nI_clamp (by omega)]
            by_cases q : j = i
            · subst q; exact pk_us
            · rw [pk_un q]; exact hf j (by omega)
        refine v_iinc C 2 [(2, .int (nI (i + 1))), (0, .ref a), (1, .int v), (3, .int (nI n))] rfl (nI_inc i 1 (by decide)) rfl (by decide) dJ7_fill_53178_14 ?_
        refine v_goto (tgt := 5) C dJ7_fill_53178_17 (by decide) ?_
        refine v_lvp [1, 2, 0, 3] rfl ?_
        exact ih1 (i + 1) _ h3 (by omega) k4 (fun b hb => by rw [eh3, zup_ne _ _ hb]; exact hK b hb) (fun j hj => fq j hj) (by omega)
  refine v_lvp [2, 3, 1, 0] rfl ?_
  exact L1 (n + 1) 0 f h (by omega) hA (fun _ _ => rfl) (fun j hj => absurd hj (by omega)) (by omega)

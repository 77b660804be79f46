theorem mn_nI {a b : Nat} (h : a ≤ b) (hb : b < 2 ^ 31) : (if nI b < nI a then nI b else nI a) = nI a := if_neg (nI_nlt h hb)
theorem mx_nI (a b : Nat) (ha : a < 2 ^ 31) (hb : b < 2 ^ 31) : (if nI a < nI b then nI b else nI a) = nI (max a b) := by
  by_cases h : a < b
  · rw [if_pos (nI_lt h hb), Nat.max_eq_right (by omega)]
  · rw [if_neg (nI_nlt (by omega) ha), Nat.max_eq_left (by omega)]
theorem cpy_in {f g : Nat → Int32} {n j : Nat} (h : j < n) : va_cpy f g 0 0 n j = f j := by rw [pk_cpy_in (by omega) (by omega)]; congr 1; omega
theorem tc0 : (0 : Int32).toNatClampNeg = 0 := by decide
set_option maxHeartbeats 4000000 in
set_option maxRecDepth 100000 in
theorem c_J7_copyOf_9075b (l : Launch) (hl : l.stackTraces = false) (G : zG) (a n q : Nat) (f : Nat → Int32) (h : zH) (hA : h a = some (.inl (gc G 2, n, .inl f))) (hf : sb_Fit f) (hn : n < q) (hq : q ≤ 1000) : zMet eR l yJ7_copyOf_9075b cJ7_copyOf_9075b 3 (some (.array .byte)) 12 1 1000 G [.ref a, .int (nI q)] h (fun r h2 => h r = none ∧ gN G ≤ r ∧ zKp (fun _ => False) h h2 ∧ ∃ f2, h2 r = some (.inl (gc G 2, q, .inl f2)) ∧ (∀ j, j < n → f2 j = f j) ∧ sb_Fit f2) := by
  refine con_of hl RJ7 rfl (by decide +kernel) [(0, .ref a), (1, .int (nI q))] rfl (Nat.le_of_ble_eq_true rfl) ?_
  intro zp ze zs zm zargs zbelow zmeth zc C hr hin Q hQ
  refine v_iload_n C 1 rfl dJ7_copyOf_9075b_0 rfl ?_
  refine v_aload_n C 0 rfl dJ7_copyOf_9075b_1 rfl ?_
  refine v_alen (v := nI n) C 2 rfl hA rfl dJ7_copyOf_9075b_2 ?_
  refine v_icmp_ne (tgt := 14) C dJ7_copyOf_9075b_3 (by decide) (fun c1 => ?_) (fun c1 => absurd ((nI_eq (by omega) (by omega)).mp c1) (by omega))
  have c1 := (nn_ne (a := q) (b := n) (by omega) (by omega)).mp c1
  refine v_iload_n C 1 rfl dJ7_copyOf_9075b_14 rfl ?_
  refine v_newa (atype := .byte) (N := q) (z := (q, .inl (fun _ => 0))) C 2 rfl rfl rfl AY_byte (fun cA => rfl) (nI_pos (by omega)) (nI_clamp (by omega)) (by show q * 1 ≤ 536870912; omega) (Nat.le_of_ble_eq_true rfl) (by show 0 + q ≤ 1000; omega) dJ7_copyOf_9075b_15 (fun q2 gq2 nq2 => v_nw (fun h2 eh2 => ?_))
  have k3 : h2 a = some (.inl (gc G 2, n, .inl f)) := by rw [eh2, zup_ne _ _ (zne_new nq2 hA)]; exact hA
  have k4 : h2 q2 = some (.inl (gc G 2, q, .inl (fun _ => 0))) := by rw [eh2]; exact zup_self _ _ _
  refine v_astore_n C [(2, .ref q2), (0, .ref a), (1, .int (nI q))] rfl (by decide) dJ7_copyOf_9075b_17 rfl ?_
  refine v_aload_n C 1 rfl dJ7_copyOf_9075b_18 rfl ?_
  refine v_iconst (v := 0) C dJ7_copyOf_9075b_19 (by decide) ?_
  refine v_aload_n C 0 rfl dJ7_copyOf_9075b_20 rfl ?_
  refine v_iconst (v := 0) C dJ7_copyOf_9075b_21 (by decide) ?_
  refine v_aload_n C 1 rfl dJ7_copyOf_9075b_22 rfl ?_
  refine v_alen (v := nI n) C 2 rfl k3 rfl dJ7_copyOf_9075b_23 ?_
  refine v_iload_n C 2 rfl dJ7_copyOf_9075b_24 rfl ?_
  refine v_mmin C MM_J7_304 (Nat.le_of_ble_eq_true rfl) (Nat.le_of_ble_eq_true rfl) (Nat.le_of_ble_eq_true rfl) (by show 0 + q ≤ 1000; omega) dJ7_copyOf_9075b_25 (v_topi (fun i5 e5 => ?_))
  subst e5
  refine v_eqi (mn_nI (by omega) (by omega)) ?_
  refine v_copyT C AC_J7_150 (Or.inl k3) k4 (by decide) (by decide) (nI_pos (by omega)) (by rw [nI_clamp (by omega), tc0]; omega) (by rw [nI_clamp (by omega), tc0]; omega) (fun _ _ => hf _) (Nat.le_of_ble_eq_true rfl) (Nat.le_of_ble_eq_true rfl) dJ7_copyOf_9075b_28 (v_nw (fun h6 eh6 => ?_))
  have k7 : h6 a = some (.inl (gc G 2, n, .inl f)) := by rw [eh6, zup_ne _ _ (zne_new nq2 hA)]; exact k3
  have k8 : h6 q2 = some (.inl (gc G 2, q, .inl (va_cpy f (fun _ => 0) (0 : Int32).toNatClampNeg (0 : Int32).toNatClampNeg ((nI n) : Int32).toNatClampNeg))) := by rw [eh6]; exact zup_self _ _ _
  refine v_aload_n C 0 rfl dJ7_copyOf_9075b_31 rfl ?_
  exact v_aret C hQ hr (Or.inr ⟨_, rfl⟩) (Nat.le_of_ble_eq_true rfl) (by show 0 + q ≤ 1000; omega) dJ7_copyOf_9075b_32 ⟨nq2, gq2, (zk_pub (zk_new (zk_rf _ _) eh2 nq2) eh6 nq2), _, k8, (fun j hj => by rw [nI_clamp (by omega), tc0]; exact cpy_in hj), sb_fitC hf sb_fit0⟩
set_option maxHeartbeats 4000000 in
set_option maxRecDepth 100000 in
theorem c_J8_newLength_cabcc (l : Launch) (hl : l.stackTraces = false) (G : zG) (m a b : Nat) (h : zH) (hm : m ≤ 2000) (ha : a ≤ 2000) (hb : b ≤ 2000) (h0 : 0 < a) : zMet eI l yJ8_newLength_cabcc cJ8_newLength_cabcc 4 (some .int) 12 0 0 G [.int (nI m), .int (nI a), .int (nI b)] h (fun r h2 => r = nI (m + max a b) ∧ h = h2) := by
  refine con_of hl RJ8 rfl (by decide +kernel) [(0, .int (nI m)), (1, .int (nI a)), (2, .int (nI b))] rfl (Nat.le_of_ble_eq_true rfl) ?_
  intro zp ze zs zm zargs zbelow zmeth zc C hr hin Q hQ
  refine v_iload_n C 0 rfl dJ8_newLength_cabcc_0 rfl ?_
  refine v_iload_n C 1 rfl dJ8_newLength_cabcc_1 rfl ?_
  refine v_iload_n C 2 rfl dJ8_newLength_cabcc_2 rfl ?_
  refine v_mmax C MM_J8_194 (Nat.le_of_ble_eq_true rfl) (Nat.le_of_ble_eq_true rfl) (Nat.le_of_ble_eq_true rfl) (Nat.le_of_ble_eq_true rfl) dJ8_newLength_cabcc_3 (v_topi (fun i1 e1 => ?_))
  subst e1
  refine v_eqi (mx_nI a b (by omega) (by omega)) ?_
  refine v_iadd C dJ8_newLength_cabcc_6 (v_eqi (nI_add m (max a b)) ?_)
  refine v_istore_n C [(3, .int (nI (m + (max a b)))), (0, .int (nI m)), (1, .int (nI a)), (2, .int (nI b))] rfl (by decide) dJ8_newLength_cabcc_7 rfl ?_
  refine v_iconst (v := 0) C dJ8_newLength_cabcc_8 (by decide) ?_
  refine v_iload_n C 0 rfl dJ8_newLength_cabcc_9 rfl ?_
  refine v_icmp_ge (tgt := 21) C dJ8_newLength_cabcc_10 (by decide) (fun c3 => absurd ((kn_ge (a := m + max a b) 0 (by decide) (by omega) (by decide)).mp c3) (by omega)) (fun c3 => ?_)
  have c3 := (kn_ge_f (a := (m + (max a b))) 0 (by decide) (by omega) (by decide)).mp c3
  refine v_iload_n C 0 rfl dJ8_newLength_cabcc_13 rfl ?_
  refine v_ldc C KO_J8_200 dJ8_newLength_cabcc_14 ?_
  refine v_icmp_gt (tgt := 21) C dJ8_newLength_cabcc_16 (by decide) (fun c4 => absurd ((nk_gt (a := m + max a b) 2147483639 (by decide) (by omega) (by decide)).mp c4) (by omega)) (fun c4 => ?_)
  have c4 := (nk_gt_f (a := (m + (max a b))) 2147483639 (by decide) (by omega) (by decide)).mp c4
  refine v_iload_n C 0 rfl dJ8_newLength_cabcc_19 rfl ?_
  exact v_iret C hQ hr rfl (Nat.le_of_ble_eq_true rfl) (Nat.le_of_ble_eq_true rfl) dJ8_newLength_cabcc_20 ⟨rfl, rfl⟩
def ncap (q m : Nat) : Nat := m + max (q - m) (m + 2)
set_option maxHeartbeats 4000000 in
set_option maxRecDepth 100000 in
theorem c_J5_newCapacity_0f7a4 (l : Launch) (hl : l.stackTraces = false) (G : zG) (sb ar cap : Nat) (f : Nat → Int32) (t : List Nat) (q : Nat) (h : zH) (hs : zSB G h sb ar cap f t) (h1 : cap < q) (h2 : q ≤ 500) : zMet eI l yJ5_newCapacity_0f7a4 cJ5_newCapacity_0f7a4 6 (some .int) 13 0 0 G [.ref sb, .int (nI q)] h (fun r h2 => r = nI (ncap q cap) ∧ h = h2) := by
  refine con_of hl RJ5 rfl (by decide +kernel) [(0, .ref sb), (1, .int (nI q))] rfl (Nat.le_of_ble_eq_true rfl) ?_
  intro zp ze zs zm zargs zbelow zmeth zc C hr hin Q hQ
  obtain ⟨s1, s2, s3, s4, s5, s6⟩ := id hs
  refine v_aload_n C 0 rfl dJ5_newCapacity_0f7a4_0 rfl ?_
  refine v_get (v := .ref ar) C F_J5_15 hs.1 rfl dJ5_newCapacity_0f7a4_1 ?_
  refine v_alen (v := nI cap) C 2 rfl hs.2.1 rfl dJ5_newCapacity_0f7a4_4 ?_
  refine v_istore_n C [(2, .int (nI cap)), (0, .ref sb), (1, .int (nI q))] rfl (by decide) dJ5_newCapacity_0f7a4_5 rfl ?_
  refine v_iload_n C 2 rfl dJ5_newCapacity_0f7a4_6 rfl ?_
  refine v_aload_n C 1 rfl dJ5_newCapacity_0f7a4_7 rfl ?_
  refine v_get (v := .int 0) C F_J5_22 hs.1 rfl dJ5_newCapacity_0f7a4_8 ?_
  refine v_ishl C dJ5_newCapacity_0f7a4_11 (v_eqi (i_shl0 q) ?_)
  refine v_istore_n C [(3, .int (nI q)), (2, .int (nI cap)), (0, .ref sb), (1, .int (nI q))] rfl (by decide) dJ5_newCapacity_0f7a4_12 rfl ?_
  refine v_iload_n C 0 rfl dJ5_newCapacity_0f7a4_13 rfl ?_
  refine v_iload_n C 1 rfl dJ5_newCapacity_0f7a4_14 rfl ?_
  refine v_isub C dJ5_newCapacity_0f7a4_15 (v_eqi (pk_sub (a := q) (b := cap) (by omega)) ?_)
  refine v_istore C [(4, .int (nI (q - cap))), (3, .int (nI q)), (2, .int (nI cap)), (0, .ref sb), (1, .int (nI q))] rfl (by decide) dJ5_newCapacity_0f7a4_16 ?_
  refine v_iload_n C 2 rfl dJ5_newCapacity_0f7a4_18 rfl ?_
  refine v_iload C 0 rfl dJ5_newCapacity_0f7a4_19 ?_
  refine v_iload_n C 2 rfl dJ5_newCapacity_0f7a4_21 rfl ?_
  refine v_iconst (v := 2) C dJ5_newCapacity_0f7a4_22 (by decide) ?_
  refine v_aload_n C 3 rfl dJ5_newCapacity_0f7a4_23 rfl ?_
  refine v_get (v := .int 0) C F_J5_22 hs.1 rfl dJ5_newCapacity_0f7a4_24 ?_
  refine v_ishl C dJ5_newCapacity_0f7a4_27 (v_eqi (y := 2) (by decide) ?_)
  refine v_iadd C dJ5_newCapacity_0f7a4_28 (v_eqi (nI_adk cap 2 (by decide)) ?_)
  refine v_callS (rest := []) C (c_J8_newLength_cabcc l hl G cap (q - cap) (cap + 2) h (by omega) (by omega) (by omega) (by omega)) S_J5_114 rfl rfl (Nat.le_of_ble_eq_true rfl) ⟨Nat.le_of_ble_eq_true rfl, Nat.le_of_ble_eq_true rfl⟩ ⟨Nat.le_of_ble_eq_true rfl, Nat.le_of_ble_eq_true rfl⟩ dJ5_newCapacity_0f7a4_29 (fun i5 h5 q5 => ?_)
  obtain ⟨e5, rfl⟩ := q5; subst e5
  refine v_istore C [(5, .int (nI (cap + max (q - cap) (cap + 2)))), (4, .int (nI (q - cap))), (3, .int (nI q)), (2, .int (nI cap)), (0, .ref sb), (1, .int (nI q))] rfl (by decide) dJ5_newCapacity_0f7a4_32 ?_
  refine v_iload C 0 rfl dJ5_newCapacity_0f7a4_34 ?_
  refine v_ldc C KO_J5_39 dJ5_newCapacity_0f7a4_36 ?_
  refine v_icmp_ne (tgt := 51) C dJ5_newCapacity_0f7a4_38 (by decide) (fun c6 => ?_) (fun c6 => absurd ((nk_eq (a := cap + max (q - cap) (cap + 2)) 2147483647 (by decide) (by omega) (by decide)).mp c6) (by omega))
  have c6 := (nk_ne (a := (cap + max (q - cap) (cap + 2))) 2147483647 (by decide) (by omega) (by decide)).mp c6
  refine v_iload C 0 rfl dJ5_newCapacity_0f7a4_51 ?_
  refine v_aload_n C 4 rfl dJ5_newCapacity_0f7a4_53 rfl ?_
  refine v_get (v := .int 0) C F_J5_22 hs.1 rfl dJ5_newCapacity_0f7a4_54 ?_
  refine v_ishr C dJ5_newCapacity_0f7a4_57 (v_eqi (i_shr0 (cap + max (q - cap) (cap + 2))) ?_)
  exact v_iret C hQ hr rfl (Nat.le_of_ble_eq_true rfl) (Nat.le_of_ble_eq_true rfl) dJ5_newCapacity_0f7a4_58 ⟨rfl, rfl⟩
theorem ncap_b {q m : Nat} (h1 : m < q) (h2 : q ≤ 500) : q ≤ ncap q m ∧ m < ncap q m ∧ ncap q m ≤ 1000 := by unfold ncap; omega
set_option maxHeartbeats 4000000 in
set_option maxRecDepth 100000 in
theorem c_J5_ensureCapacityInternal_d00df (l : Launch) (hl : l.stackTraces = false) (G : zG) (sb ar cap : Nat) (f : Nat → Int32) (t : List Nat) (q : Nat) (h : zH) (hs : zSB G h sb ar cap f t) (h2 : q ≤ 500) : zMet eV l yJ5_ensureCapacityInternal_d00df cJ5_ensureCapacityInternal_d00df 3 none 14 1 1000 G [.ref sb, .int (nI q)] h (fun _ h2 => ∃ ar2 cap2 f2, zSB G h2 sb ar2 cap2 f2 (t) ∧ zSt h h2 sb ar ar2 ∧ q ≤ cap2) := by
  refine con_of hl RJ5 rfl (by decide +kernel) [(0, .ref sb), (1, .int (nI q))] rfl (Nat.le_of_ble_eq_true rfl) ?_
  intro zp ze zs zm zargs zbelow zmeth zc C hr hin Q hQ
  obtain ⟨s1, s2, s3, s4, s5, s6⟩ := id hs
  refine v_aload_n C 0 rfl dJ5_ensureCapacityInternal_d00df_0 rfl ?_
  refine v_get (v := .ref ar) C F_J5_15 hs.1 rfl dJ5_ensureCapacityInternal_d00df_1 ?_
  refine v_alen (v := nI cap) C 2 rfl hs.2.1 rfl dJ5_ensureCapacityInternal_d00df_4 ?_
  refine v_aload_n C 0 rfl dJ5_ensureCapacityInternal_d00df_5 rfl ?_
  refine v_get (v := .int 0) C F_J5_22 hs.1 rfl dJ5_ensureCapacityInternal_d00df_6 ?_
  refine v_ishr C dJ5_ensureCapacityInternal_d00df_9 (v_eqi (i_shr0 cap) ?_)
  refine v_istore_n C [(2, .int (nI cap)), (0, .ref sb), (1, .int (nI q))] rfl (by decide) dJ5_ensureCapacityInternal_d00df_10 rfl ?_
  refine v_iload_n C 2 rfl dJ5_ensureCapacityInternal_d00df_11 rfl ?_
  refine v_iload_n C 0 rfl dJ5_ensureCapacityInternal_d00df_12 rfl ?_
  refine v_isub C dJ5_ensureCapacityInternal_d00df_13 (v_topi (fun i2 e2 => ?_))
  refine v_if_le (tgt := 38) C dJ5_ensureCapacityInternal_d00df_14 (by decide) (fun c3 => ?_) (fun c3 => ?_)
  · rw [e2] at c3
    have c3 := (df_le (a := q) (b := cap) (by omega) (by omega)).mp c3
    exact v_vret C hQ hr (Nat.le_of_ble_eq_true rfl) (Nat.le_of_ble_eq_true rfl) dJ5_ensureCapacityInternal_d00df_38 ⟨ar, cap, f, hs, zSt.rf, by omega⟩
  · rw [e2] at c3
    have c3 := (df_le_f (a := q) (b := cap) (by omega) (by omega)).mp c3
    refine v_aload_n C 1 rfl dJ5_ensureCapacityInternal_d00df_17 rfl ?_
    refine v_aload_n C 1 rfl dJ5_ensureCapacityInternal_d00df_18 rfl ?_
    refine v_get (v := .ref ar) C F_J5_15 hs.1 rfl dJ5_ensureCapacityInternal_d00df_19 ?_
    refine v_aload_n C 1 rfl dJ5_ensureCapacityInternal_d00df_22 rfl ?_
    refine v_iload_n C 2 rfl dJ5_ensureCapacityInternal_d00df_23 rfl ?_
    refine v_callU (rest := [.ref ar, .ref sb]) C (c_J5_newCapacity_0f7a4 l hl G sb ar cap f t q h hs (by omega) h2) U_J5_104 hs.1 rfl rfl (Nat.le_of_ble_eq_true rfl) ⟨Nat.le_of_ble_eq_true rfl, Nat.le_of_ble_eq_true rfl⟩ ⟨Nat.le_of_ble_eq_true rfl, Nat.le_of_ble_eq_true rfl⟩ dJ5_ensureCapacityInternal_d00df_24 (fun i4 h4 q4 => ?_)
    obtain ⟨e4, rfl⟩ := q4; subst e4
    refine v_aload_n C 1 rfl dJ5_ensureCapacityInternal_d00df_27 rfl ?_
    refine v_get (v := .int 0) C F_J5_22 hs.1 rfl dJ5_ensureCapacityInternal_d00df_28 ?_
    refine v_ishl C dJ5_ensureCapacityInternal_d00df_31 (v_eqi (i_shl0 (ncap q cap)) ?_)
    have nb := ncap_b (q := q) (m := cap) (by omega) h2
    refine v_callS (rest := [.ref sb]) C (c_J7_copyOf_9075b l hl G ar cap (ncap q cap) f h s2 s6 nb.2.1 nb.2.2) S_J5_108 rfl rfl (Nat.le_of_ble_eq_true rfl) ⟨Nat.le_of_ble_eq_true rfl, Nat.le_of_ble_eq_true rfl⟩ ⟨Nat.le_of_ble_eq_true rfl, Nat.le_of_ble_eq_true rfl⟩ dJ5_ensureCapacityInternal_d00df_32 (fun q6 h6 w6 => ?_)
    obtain ⟨nq6, gq6, kp6, fc6, hc6, fe6, ff6⟩ := w6
    have k7 : h6 sb = some (.inr (1, [.ref ar, .int 0, .int 0, .int (nI t.length)])) := kp6 _ _ (fun q => q) hs.1
    have k8 : h6 ar = some (.inl (gc G 2, cap, .inl f)) := kp6 _ _ (fun q => q) hs.2.1
    refine v_put C [.ref q6, .int 0, .int 0, .int (nI t.length)] P_J5_15 k7 rfl rfl rfl (Nat.le_of_ble_eq_true rfl) dJ5_ensureCapacityInternal_d00df_35 (v_nw (fun h9 eh9 => ?_))
    have k10 : h9 ar = some (.inl (gc G 2, cap, .inl f)) := by rw [eh9, zup_ne _ _ (zne_oi k7 k8)]; exact k8
    have k11 : h9 q6 = some (.inl (gc G 2, (ncap q cap), .inl fc6)) := by rw [eh9, zup_ne _ _ (Ne.symm (zne_new nq6 hs.1))]; exact hc6
    have k12 : h9 sb = some (.inr (1, [.ref q6, .int 0, .int 0, .int (nI t.length)])) := by rw [eh9]; exact zup_self _ _ _
    exact v_vret C hQ hr (Nat.le_of_ble_eq_true rfl) (Nat.le_of_ble_eq_true rfl) dJ5_ensureCapacityInternal_d00df_38 ⟨q6, ncap q cap, fc6, ⟨k12, k11, by omega, by omega, (fun j hj => by rw [fe6 j (by omega)]; exact s5 j hj), ff6⟩, ⟨(zk_put (zk_weak kp6 (fun _ _ _ _ q => q)) eh9 (Or.inl rfl)), Or.inr nq6⟩, by omega⟩

/-! objects that are made -/
theorem mx_gI (a b : Nat) (ha : a < 2 ^ 30) (hb : b < 2 ^ 30) : (if gI a < gI b then gI b else gI a) = gI (max a b) := by
  by_cases h : a < b
  · rw [if_pos (by rw [i32_lt, gI_toInt ha, gI_toInt hb]; omega), Nat.max_eq_right (by omega)]
  · rw [if_neg (by rw [i32_lt, gI_toInt ha, gI_toInt hb]; omega), Nat.max_eq_left (by omega)]
theorem knoneS {q : Nat} {h0 h : zH} {a : Nat} (k : zKp (fun b => b = q) h0 h) (ha : h a = none) (hq : h q ≠ none) : h0 a = none := by
  cases hh : h0 a with
  | none => rfl
  | some e => exact absurd (k a e (fun z => hq (by rw [← show a = q from z]; exact ha)) hh) (by rw [ha]; exact fun z => by cases z)
set_option maxHeartbeats 4000000 in
set_option maxRecDepth 100000 in
theorem c_X0_init (l : Launch) (hl : l.stackTraces = false) (G : zG) (q t : Nat) (f p : Int32) (h : zH) (hq0 : h q = some (.inr (3, [.int 0, .null, .int 0, .long 0]))) : zMet eV l yX0_init cX0_init 4 none 12 0 0 G [.ref q, .int f, .ref t, .int p] h (fun _ h2 => h2 q = some (.inr (3, [.int f, .ref t, .int p, .long 0])) ∧ zKp (fun b => b = q) h h2) := by
  refine con_of hl RX0 rfl (by decide +kernel) [(0, .ref q), (1, .int f), (2, .ref t), (3, .int p)] rfl (Nat.le_of_ble_eq_true rfl) ?_
  intro zp ze zs zm zargs zbelow zmeth zc C hr hin Q hQ
  refine v_aload_n C 0 rfl dX0_init_0 rfl ?_
  refine v_objInit C O_X0_1 (Nat.le_of_ble_eq_true rfl) (Nat.le_of_ble_eq_true rfl) dX0_init_1 ?_
  refine v_aload_n C 0 rfl dX0_init_4 rfl ?_
  refine v_iload_n C 1 rfl dX0_init_5 rfl ?_
  refine v_putF C [.int f, .null, .int 0, .long 0] P_X0_7 hin hq0 rfl rfl rfl (Nat.le_of_ble_eq_true rfl) dX0_init_6 (v_nw (fun h1 eh1 => ?_))
  have k2 : h1 q = some (.inr (3, [.int f, .null, .int 0, .long 0])) := by rw [eh1]; exact zup_self _ _ _
  refine v_aload_n C 0 rfl dX0_init_9 rfl ?_
  refine v_aload_n C 2 rfl dX0_init_10 rfl ?_
  refine v_putF C [.int f, .ref t, .int 0, .long 0] P_X0_13 hin k2 rfl rfl rfl (Nat.le_of_ble_eq_true rfl) dX0_init_11 (v_nw (fun h3 eh3 => ?_))
  have k4 : h3 q = some (.inr (3, [.int f, .ref t, .int 0, .long 0])) := by rw [eh3]; exact zup_self _ _ _
  refine v_aload_n C 0 rfl dX0_init_14 rfl ?_
  refine v_iload_n C 3 rfl dX0_init_15 rfl ?_
  refine v_putF C [.int f, .ref t, .int p, .long 0] P_X0_17 hin k4 rfl rfl rfl (Nat.le_of_ble_eq_true rfl) dX0_init_16 (v_nw (fun h5 eh5 => ?_))
  have k6 : h5 q = some (.inr (3, [.int f, .ref t, .int p, .long 0])) := by rw [eh5]; exact zup_self _ _ _
  exact v_vret C hQ hr (Nat.le_of_ble_eq_true rfl) (Nat.le_of_ble_eq_true rfl) dX0_init_19 ⟨k6, (zk_put (zk_put (zk_put (zk_rf _ _) eh1 rfl) eh3 rfl) eh5 rfl)⟩
set_option maxHeartbeats 4000000 in
set_option maxRecDepth 100000 in
theorem c_X1_init (l : Launch) (hl : l.stackTraces = false) (G : zG) (q tx row : Nat) (lv gi : Int32) (h : zH) (hq0 : h q = some (.inr (4, [.int 0, .int 0, .null, .null, .int 0, .int 0, .null, .null]))) : zMet eV l yX1_init cX1_init 5 none 12 0 0 G [.ref q, .int lv, .int gi, .ref tx, .ref row] h (fun _ h2 => h2 q = some (.inr (4, [.int 4, .int 0, .null, .null, .int lv, .int gi, .ref tx, .ref row])) ∧ zKp (fun b => b = q) h h2) := by
  refine con_of hl RX1 rfl (by decide +kernel) [(0, .ref q), (1, .int lv), (2, .int gi), (3, .ref tx), (4, .ref row)] rfl (Nat.le_of_ble_eq_true rfl) ?_
  intro zp ze zs zm zargs zbelow zmeth zc C hr hin Q hQ
  refine v_aload_n C 0 rfl dX1_init_0 rfl ?_
  refine v_objInit C O_X1_3 (Nat.le_of_ble_eq_true rfl) (Nat.le_of_ble_eq_true rfl) dX1_init_1 ?_
  refine v_aload_n C 0 rfl dX1_init_4 rfl ?_
  refine v_iconst (v := 4) C dX1_init_5 (by decide) ?_
  refine v_putF C [.int 4, .int 0, .null, .null, .int 0, .int 0, .null, .null] P_X1_9 hin hq0 rfl rfl rfl (Nat.le_of_ble_eq_true rfl) dX1_init_6 (v_nw (fun h1 eh1 => ?_))
  have k2 : h1 q = some (.inr (4, [.int 4, .int 0, .null, .null, .int 0, .int 0, .null, .null])) := by rw [eh1]; exact zup_self _ _ _
  refine v_aload_n C 0 rfl dX1_init_9 rfl ?_
  refine v_iconst (v := 0) C dX1_init_10 (by decide) ?_
  refine v_putF C [.int 4, .int 0, .null, .null, .int 0, .int 0, .null, .null] P_X1_15 hin k2 rfl rfl rfl (Nat.le_of_ble_eq_true rfl) dX1_init_11 (v_nw (fun h3 eh3 => ?_))
  have k4 : h3 q = some (.inr (4, [.int 4, .int 0, .null, .null, .int 0, .int 0, .null, .null])) := by rw [eh3]; exact zup_self _ _ _
  refine v_aload_n C 0 rfl dX1_init_14 rfl ?_
  refine v_null C dX1_init_15 ?_
  refine v_putF C [.int 4, .int 0, .null, .null, .int 0, .int 0, .null, .null] P_X1_18 hin k4 rfl rfl rfl (Nat.le_of_ble_eq_true rfl) dX1_init_16 (v_nw (fun h5 eh5 => ?_))
  have k6 : h5 q = some (.inr (4, [.int 4, .int 0, .null, .null, .int 0, .int 0, .null, .null])) := by rw [eh5]; exact zup_self _ _ _
  refine v_aload_n C 0 rfl dX1_init_19 rfl ?_
  refine v_null C dX1_init_20 ?_
  refine v_putF C [.int 4, .int 0, .null, .null, .int 0, .int 0, .null, .null] P_X1_22 hin k6 rfl rfl rfl (Nat.le_of_ble_eq_true rfl) dX1_init_21 (v_nw (fun h7 eh7 => ?_))
  have k8 : h7 q = some (.inr (4, [.int 4, .int 0, .null, .null, .int 0, .int 0, .null, .null])) := by rw [eh7]; exact zup_self _ _ _
  refine v_aload_n C 0 rfl dX1_init_24 rfl ?_
  refine v_iload_n C 1 rfl dX1_init_25 rfl ?_
  refine v_putF C [.int 4, .int 0, .null, .null, .int lv, .int 0, .null, .null] P_X1_25 hin k8 rfl rfl rfl (Nat.le_of_ble_eq_true rfl) dX1_init_26 (v_nw (fun h9 eh9 => ?_))
  have k10 : h9 q = some (.inr (4, [.int 4, .int 0, .null, .null, .int lv, .int 0, .null, .null])) := by rw [eh9]; exact zup_self _ _ _
  refine v_aload_n C 0 rfl dX1_init_29 rfl ?_
  refine v_iload_n C 2 rfl dX1_init_30 rfl ?_
  refine v_putF C [.int 4, .int 0, .null, .null, .int lv, .int gi, .null, .null] P_X1_28 hin k10 rfl rfl rfl (Nat.le_of_ble_eq_true rfl) dX1_init_31 (v_nw (fun h11 eh11 => ?_))
  have k12 : h11 q = some (.inr (4, [.int 4, .int 0, .null, .null, .int lv, .int gi, .null, .null])) := by rw [eh11]; exact zup_self _ _ _
  refine v_aload_n C 0 rfl dX1_init_34 rfl ?_
  refine v_aload_n C 3 rfl dX1_init_35 rfl ?_
  refine v_putF C [.int 4, .int 0, .null, .null, .int lv, .int gi, .ref tx, .null] P_X1_31 hin k12 rfl rfl rfl (Nat.le_of_ble_eq_true rfl) dX1_init_36 (v_nw (fun h13 eh13 => ?_))
  have k14 : h13 q = some (.inr (4, [.int 4, .int 0, .null, .null, .int lv, .int gi, .ref tx, .null])) := by rw [eh13]; exact zup_self _ _ _
  refine v_aload_n C 0 rfl dX1_init_39 rfl ?_
  refine v_aload C 4 rfl dX1_init_40 ?_
  refine v_putF C [.int 4, .int 0, .null, .null, .int lv, .int gi, .ref tx, .ref row] P_X1_35 hin k14 rfl rfl rfl (Nat.le_of_ble_eq_true rfl) dX1_init_42 (v_nw (fun h15 eh15 => ?_))
  have k16 : h15 q = some (.inr (4, [.int 4, .int 0, .null, .null, .int lv, .int gi, .ref tx, .ref row])) := by rw [eh15]; exact zup_self _ _ _
  exact v_vret C hQ hr (Nat.le_of_ble_eq_true rfl) (Nat.le_of_ble_eq_true rfl) dX1_init_45 ⟨k16, (zk_put (zk_put (zk_put (zk_put (zk_put (zk_put (zk_put (zk_put (zk_rf _ _) eh1 rfl) eh3 rfl) eh5 rfl) eh7 rfl) eh9 rfl) eh11 rfl) eh13 rfl) eh15 rfl)⟩
set_option maxHeartbeats 4000000 in
set_option maxRecDepth 100000 in
theorem c_X1_init_2 (l : Launch) (hl : l.stackTraces = false) (G : zG) (q a1 lu gu a2 lv gv tx : Nat) (kd p : Int32) (u0 u1 u2 u3 u6 u7 v0 v1 v2 v3 v6 v7 : Value) (h : zH) (hq0 : h q = some (.inr (4, [.int 0, .int 0, .null, .null, .int 0, .int 0, .null, .null]))) (hau : h a1 = some (.inr (4, [u0, u1, u2, u3, .int (nI lu), .int (gI gu), u6, u7]))) (hav : h a2 = some (.inr (4, [v0, v1, v2, v3, .int (nI lv), .int (gI gv), v6, v7]))) (hlu : lu < 2 ^ 29) (hgu : gu < 2 ^ 29) (hlv : lv < 2 ^ 29) (hgv : gv < 2 ^ 29) (hq1 : a1 ≠ q) (hq2 : a2 ≠ q) : zMet eV l yX1_init_ cX1_init_ 6 none 13 1 20 G [.ref q, .int kd, .int p, .ref a1, .ref a2, .ref tx] h (fun _ h2 => ∃ row, h2 q = some (.inr (4, [.int kd, .int p, .ref a1, .ref a2, .int (nI (1 + max lu lv)), .int (gI (max gu gv)), .ref tx, .ref row])) ∧ h2 row = some (cL G (fun _ => 0)) ∧ h row = none ∧ zKp (fun b => b = q) h h2) := by
  refine con_of hl RX1 rfl (by decide +kernel) [(0, .ref q), (1, .int kd), (2, .int p), (3, .ref a1), (4, .ref a2), (5, .ref tx)] rfl (Nat.le_of_ble_eq_true rfl) ?_
  intro zp ze zs zm zargs zbelow zmeth zc C hr hin Q hQ
  refine v_aload_n C 0 rfl dX1_init__0 rfl ?_
  refine v_objInit C O_X1_3 (Nat.le_of_ble_eq_true rfl) (Nat.le_of_ble_eq_true rfl) dX1_init__1 ?_
  refine v_aload_n C 0 rfl dX1_init__4 rfl ?_
  refine v_iload_n C 1 rfl dX1_init__5 rfl ?_
  refine v_putF C [.int kd, .int 0, .null, .null, .int 0, .int 0, .null, .null] P_X1_9 hin hq0 rfl rfl rfl (Nat.le_of_ble_eq_true rfl) dX1_init__6 (v_nw (fun h1 eh1 => ?_))
  have k2 : h1 a1 = some (.inr (4, [u0, u1, u2, u3, .int (nI lu), .int (gI gu), u6, u7])) := by rw [eh1, zup_ne _ _ hq1]; exact hau
  have k3 : h1 a2 = some (.inr (4, [v0, v1, v2, v3, .int (nI lv), .int (gI gv), v6, v7])) := by rw [eh1, zup_ne _ _ hq2]; exact hav
  have k4 : h1 q = some (.inr (4, [.int kd, .int 0, .null, .null, .int 0, .int 0, .null, .null])) := by rw [eh1]; exact zup_self _ _ _
  refine v_aload_n C 0 rfl dX1_init__9 rfl ?_
  refine v_iload_n C 2 rfl dX1_init__10 rfl ?_
  refine v_putF C [.int kd, .int p, .null, .null, .int 0, .int 0, .null, .null] P_X1_15 hin k4 rfl rfl rfl (Nat.le_of_ble_eq_true rfl) dX1_init__11 (v_nw (fun h5 eh5 => ?_))
  have k6 : h5 a1 = some (.inr (4, [u0, u1, u2, u3, .int (nI lu), .int (gI gu), u6, u7])) := by rw [eh5, zup_ne _ _ hq1]; exact k2
  have k7 : h5 a2 = some (.inr (4, [v0, v1, v2, v3, .int (nI lv), .int (gI gv), v6, v7])) := by rw [eh5, zup_ne _ _ hq2]; exact k3
  have k8 : h5 q = some (.inr (4, [.int kd, .int p, .null, .null, .int 0, .int 0, .null, .null])) := by rw [eh5]; exact zup_self _ _ _
  refine v_aload_n C 0 rfl dX1_init__14 rfl ?_
  refine v_aload_n C 3 rfl dX1_init__15 rfl ?_
  refine v_putF C [.int kd, .int p, .ref a1, .null, .int 0, .int 0, .null, .null] P_X1_18 hin k8 rfl rfl rfl (Nat.le_of_ble_eq_true rfl) dX1_init__16 (v_nw (fun h9 eh9 => ?_))
  have k10 : h9 a1 = some (.inr (4, [u0, u1, u2, u3, .int (nI lu), .int (gI gu), u6, u7])) := by rw [eh9, zup_ne _ _ hq1]; exact k6
  have k11 : h9 a2 = some (.inr (4, [v0, v1, v2, v3, .int (nI lv), .int (gI gv), v6, v7])) := by rw [eh9, zup_ne _ _ hq2]; exact k7
  have k12 : h9 q = some (.inr (4, [.int kd, .int p, .ref a1, .null, .int 0, .int 0, .null, .null])) := by rw [eh9]; exact zup_self _ _ _
  refine v_aload_n C 0 rfl dX1_init__19 rfl ?_
  refine v_aload C 4 rfl dX1_init__20 ?_
  refine v_putF C [.int kd, .int p, .ref a1, .ref a2, .int 0, .int 0, .null, .null] P_X1_22 hin k12 rfl rfl rfl (Nat.le_of_ble_eq_true rfl) dX1_init__22 (v_nw (fun h13 eh13 => ?_))
  have k14 : h13 a1 = some (.inr (4, [u0, u1, u2, u3, .int (nI lu), .int (gI gu), u6, u7])) := by rw [eh13, zup_ne _ _ hq1]; exact k10
  have k15 : h13 a2 = some (.inr (4, [v0, v1, v2, v3, .int (nI lv), .int (gI gv), v6, v7])) := by rw [eh13, zup_ne _ _ hq2]; exact k11
  have k16 : h13 q = some (.inr (4, [.int kd, .int p, .ref a1, .ref a2, .int 0, .int 0, .null, .null])) := by rw [eh13]; exact zup_self _ _ _
  refine v_aload_n C 0 rfl dX1_init__25 rfl ?_
  refine v_iconst (v := 1) C dX1_init__26 (by decide) ?_
  refine v_aload_n C 3 rfl dX1_init__27 rfl ?_
  refine v_callS (rest := [.int 1, .ref q]) C (c_X1_levelOf_r l hl G a1 lu _ _ _ _ .null _ _ _ h13 k14) S_X1_39 rfl rfl (Nat.le_of_ble_eq_true rfl) ⟨Nat.le_of_ble_eq_true rfl, Nat.le_of_ble_eq_true rfl⟩ ⟨Nat.le_of_ble_eq_true rfl, Nat.le_of_ble_eq_true rfl⟩ dX1_init__28 (fun i17 h17 q17 => ?_)
  obtain ⟨e17, rfl⟩ := q17
  subst e17
  refine v_aload C 4 rfl dX1_init__31 ?_
  refine v_callS (rest := [.int (nI lu), .int 1, .ref q]) C (c_X1_levelOf_r l hl G a2 lv _ _ _ _ .null _ _ _ h13 k15) S_X1_39 rfl rfl (Nat.le_of_ble_eq_true rfl) ⟨Nat.le_of_ble_eq_true rfl, Nat.le_of_ble_eq_true rfl⟩ ⟨Nat.le_of_ble_eq_true rfl, Nat.le_of_ble_eq_true rfl⟩ dX1_init__33 (fun i18 h18 q18 => ?_)
  obtain ⟨e18, rfl⟩ := q18
  subst e18
  refine v_mmax C MM_X1_43 (Nat.le_of_ble_eq_true rfl) (Nat.le_of_ble_eq_true rfl) (Nat.le_of_ble_eq_true rfl) (Nat.le_of_ble_eq_true rfl) dX1_init__36 (v_topi (fun i19 e19 => ?_))
  subst e19
  refine v_eqi (mx_nI lu lv (by omega) (by omega)) ?_
  refine v_iadd C dX1_init__39 (v_eqi (nI_kad (max lu lv) 1 (by decide)) ?_)
  refine v_putF C [.int kd, .int p, .ref a1, .ref a2, .int (nI (1 + (max lu lv))), .int 0, .null, .null] P_X1_25 hin k16 rfl rfl rfl (Nat.le_of_ble_eq_true rfl) dX1_init__40 (v_nw (fun h21 eh21 => ?_))
  have k22 : h21 a1 = some (.inr (4, [u0, u1, u2, u3, .int (nI lu), .int (gI gu), u6, u7])) := by rw [eh21, zup_ne _ _ hq1]; exact k14
  have k23 : h21 a2 = some (.inr (4, [v0, v1, v2, v3, .int (nI lv), .int (gI gv), v6, v7])) := by rw [eh21, zup_ne _ _ hq2]; exact k15
  have k24 : h21 q = some (.inr (4, [.int kd, .int p, .ref a1, .ref a2, .int (nI (1 + (max lu lv))), .int 0, .null, .null])) := by rw [eh21]; exact zup_self _ _ _
  refine v_aload_n C 0 rfl dX1_init__43 rfl ?_
  refine v_aload_n C 3 rfl dX1_init__44 rfl ?_
  refine v_callS (rest := [.ref q]) C (c_X1_greatestTermOf_r l hl G a1 gu _ _ _ _ _ .null _ _ h21 k22) S_X1_49 rfl rfl (Nat.le_of_ble_eq_true rfl) ⟨Nat.le_of_ble_eq_true rfl, Nat.le_of_ble_eq_true rfl⟩ ⟨Nat.le_of_ble_eq_true rfl, Nat.le_of_ble_eq_true rfl⟩ dX1_init__45 (fun i25 h25 q25 => ?_)
  obtain ⟨e25, rfl⟩ := q25
  subst e25
  refine v_aload C 4 rfl dX1_init__48 ?_
  refine v_callS (rest := [.int (gI gu), .ref q]) C (c_X1_greatestTermOf_r l hl G a2 gv _ _ _ _ _ .null _ _ h21 k23) S_X1_49 rfl rfl (Nat.le_of_ble_eq_true rfl) ⟨Nat.le_of_ble_eq_true rfl, Nat.le_of_ble_eq_true rfl⟩ ⟨Nat.le_of_ble_eq_true rfl, Nat.le_of_ble_eq_true rfl⟩ dX1_init__50 (fun i26 h26 q26 => ?_)
  obtain ⟨e26, rfl⟩ := q26
  subst e26
  refine v_mmax C MM_X1_43 (Nat.le_of_ble_eq_true rfl) (Nat.le_of_ble_eq_true rfl) (Nat.le_of_ble_eq_true rfl) (Nat.le_of_ble_eq_true rfl) dX1_init__53 (v_topi (fun i27 e27 => ?_))
  subst e27
  refine v_eqi (mx_gI gu gv (by omega) (by omega)) ?_
  refine v_putF C [.int kd, .int p, .ref a1, .ref a2, .int (nI (1 + (max lu lv))), .int (gI (max gu gv)), .null, .null] P_X1_28 hin k24 rfl rfl rfl (Nat.le_of_ble_eq_true rfl) dX1_init__56 (v_nw (fun h28 eh28 => ?_))
  have k29 : h28 a1 = some (.inr (4, [u0, u1, u2, u3, .int (nI lu), .int (gI gu), u6, u7])) := by rw [eh28, zup_ne _ _ hq1]; exact k22
  have k30 : h28 a2 = some (.inr (4, [v0, v1, v2, v3, .int (nI lv), .int (gI gv), v6, v7])) := by rw [eh28, zup_ne _ _ hq2]; exact k23
  have k31 : h28 q = some (.inr (4, [.int kd, .int p, .ref a1, .ref a2, .int (nI (1 + (max lu lv))), .int (gI (max gu gv)), .null, .null])) := by rw [eh28]; exact zup_self _ _ _
  refine v_aload_n C 0 rfl dX1_init__59 rfl ?_
  refine v_aload C 5 rfl dX1_init__60 ?_
  refine v_putF C [.int kd, .int p, .ref a1, .ref a2, .int (nI (1 + (max lu lv))), .int (gI (max gu gv)), .ref tx, .null] P_X1_31 hin k31 rfl rfl rfl (Nat.le_of_ble_eq_true rfl) dX1_init__62 (v_nw (fun h32 eh32 => ?_))
  have k33 : h32 a1 = some (.inr (4, [u0, u1, u2, u3, .int (nI lu), .int (gI gu), u6, u7])) := by rw [eh32, zup_ne _ _ hq1]; exact k29
  have k34 : h32 a2 = some (.inr (4, [v0, v1, v2, v3, .int (nI lv), .int (gI gv), v6, v7])) := by rw [eh32, zup_ne _ _ hq2]; exact k30
  have k35 : h32 q = some (.inr (4, [.int kd, .int p, .ref a1, .ref a2, .int (nI (1 + (max lu lv))), .int (gI (max gu gv)), .ref tx, .null])) := by rw [eh32]; exact zup_self _ _ _
  refine v_aload_n C 0 rfl dX1_init__65 rfl ?_
  refine v_bipush (v := 20) C dX1_init__66 (by decide) ?_
  refine v_newa (atype := .long) (N := 20) (z := (20, .inr (.inl (fun _ => 0)))) C 1 rfl rfl rfl AY_long (fun cA => rfl) (by decide) (by decide) (by decide) (Nat.le_of_ble_eq_true rfl) (Nat.le_of_ble_eq_true rfl) dX1_init__68 (fun q36 gq36 nq36 => v_nw (fun h36 eh36 => ?_))
  have k37 : h36 a1 = some (.inr (4, [u0, u1, u2, u3, .int (nI lu), .int (gI gu), u6, u7])) := by rw [eh36, zup_ne _ _ (zne_new nq36 k33)]; exact k33
  have k38 : h36 a2 = some (.inr (4, [v0, v1, v2, v3, .int (nI lv), .int (gI gv), v6, v7])) := by rw [eh36, zup_ne _ _ (zne_new nq36 k34)]; exact k34
  have k39 : h36 q = some (.inr (4, [.int kd, .int p, .ref a1, .ref a2, .int (nI (1 + (max lu lv))), .int (gI (max gu gv)), .ref tx, .null])) := by rw [eh36, zup_ne _ _ (zne_new nq36 k35)]; exact k35
  have k40 : h36 q36 = some (.inl (gc G 1, 20, .inr (.inl (fun _ => 0)))) := by rw [eh36]; exact zup_self _ _ _
  refine v_putF C [.int kd, .int p, .ref a1, .ref a2, .int (nI (1 + (max lu lv))), .int (gI (max gu gv)), .ref tx, .ref q36] P_X1_35 hin k39 rfl rfl rfl (Nat.le_of_ble_eq_true rfl) dX1_init__70 (v_nw (fun h41 eh41 => ?_))
  have k42 : h41 a1 = some (.inr (4, [u0, u1, u2, u3, .int (nI lu), .int (gI gu), u6, u7])) := by rw [eh41, zup_ne _ _ hq1]; exact k37
  have k43 : h41 a2 = some (.inr (4, [v0, v1, v2, v3, .int (nI lv), .int (gI gv), v6, v7])) := by rw [eh41, zup_ne _ _ hq2]; exact k38
  have k44 : h41 q36 = some (.inl (gc G 1, 20, .inr (.inl (fun _ => 0)))) := by rw [eh41, zup_ne _ _ (Ne.symm (zne_new nq36 k35))]; exact k40
  have k45 : h41 q = some (.inr (4, [.int kd, .int p, .ref a1, .ref a2, .int (nI (1 + (max lu lv))), .int (gI (max gu gv)), .ref tx, .ref q36])) := by rw [eh41]; exact zup_self _ _ _
  exact v_vret C hQ hr (Nat.le_of_ble_eq_true rfl) (Nat.le_of_ble_eq_true rfl) dX1_init__73 ⟨q36, k45, k44, (knoneS (zk_put (zk_put (zk_put (zk_put (zk_put (zk_put (zk_put (zk_rf _ _) eh1 rfl) eh5 rfl) eh9 rfl) eh13 rfl) eh21 rfl) eh28 rfl) eh32 rfl) nq36 (by rw [k35]; exact fun z => by cases z)), (zk_put (zk_new (zk_put (zk_put (zk_put (zk_put (zk_put (zk_put (zk_put (zk_rf _ _) eh1 rfl) eh5 rfl) eh9 rfl) eh13 rfl) eh21 rfl) eh28 rfl) eh32 rfl) eh36 nq36) eh41 rfl)⟩
set_option maxHeartbeats 4000000 in
set_option maxRecDepth 100000 in
theorem c_X1_init_1 (l : Launch) (hl : l.stackTraces = false) (G : zG) (q a1 lu gu tx : Nat) (kd p : Int32) (u0 u1 u2 u3 u6 u7 : Value) (h : zH) (hq0 : h q = some (.inr (4, [.int 0, .int 0, .null, .null, .int 0, .int 0, .null, .null]))) (hau : h a1 = some (.inr (4, [u0, u1, u2, u3, .int (nI lu), .int (gI gu), u6, u7]))) (hlu : lu < 2 ^ 29) (hgu : gu < 2 ^ 29) (hq1 : a1 ≠ q) : zMet eV l yX1_init_ cX1_init_ 6 none 13 1 20 G [.ref q, .int kd, .int p, .ref a1, .null, .ref tx] h (fun _ h2 => ∃ row, h2 q = some (.inr (4, [.int kd, .int p, .ref a1, .null, .int (nI (1 + max lu 0)), .int (gI (max gu 0)), .ref tx, .ref row])) ∧ h2 row = some (cL G (fun _ => 0)) ∧ h row = none ∧ zKp (fun b => b = q) h h2) := by
  refine con_of hl RX1 rfl (by decide +kernel) [(0, .ref q), (1, .int kd), (2, .int p), (3, .ref a1), (4, .null), (5, .ref tx)] rfl (Nat.le_of_ble_eq_true rfl) ?_
  intro zp ze zs zm zargs zbelow zmeth zc C hr hin Q hQ
  refine v_aload_n C 0 rfl dX1_init__0 rfl ?_
  refine v_objInit C O_X1_3 (Nat.le_of_ble_eq_true rfl) (Nat.le_of_ble_eq_true rfl) dX1_init__1 ?_
  refine v_aload_n C 0 rfl dX1_init__4 rfl ?_
  refine v_iload_n C 1 rfl dX1_init__5 rfl ?_
  refine v_putF C [.int kd, .int 0, .null, .null, .int 0, .int 0, .null, .null] P_X1_9 hin hq0 rfl rfl rfl (Nat.le_of_ble_eq_true rfl) dX1_init__6 (v_nw (fun h1 eh1 => ?_))
  have k2 : h1 a1 = some (.inr (4, [u0, u1, u2, u3, .int (nI lu), .int (gI gu), u6, u7])) := by rw [eh1, zup_ne _ _ hq1]; exact hau
  have k3 : h1 q = some (.inr (4, [.int kd, .int 0, .null, .null, .int 0, .int 0, .null, .null])) := by rw [eh1]; exact zup_self _ _ _
  refine v_aload_n C 0 rfl dX1_init__9 rfl ?_
  refine v_iload_n C 2 rfl dX1_init__10 rfl ?_
  refine v_putF C [.int kd, .int p, .null, .null, .int 0, .int 0, .null, .null] P_X1_15 hin k3 rfl rfl rfl (Nat.le_of_ble_eq_true rfl) dX1_init__11 (v_nw (fun h4 eh4 => ?_))
  have k5 : h4 a1 = some (.inr (4, [u0, u1, u2, u3, .int (nI lu), .int (gI gu), u6, u7])) := by rw [eh4, zup_ne _ _ hq1]; exact k2
  have k6 : h4 q = some (.inr (4, [.int kd, .int p, .null, .null, .int 0, .int 0, .null, .null])) := by rw [eh4]; exact zup_self _ _ _
  refine v_aload_n C 0 rfl dX1_init__14 rfl ?_
  refine v_aload_n C 3 rfl dX1_init__15 rfl ?_
  refine v_putF C [.int kd, .int p, .ref a1, .null, .int 0, .int 0, .null, .null] P_X1_18 hin k6 rfl rfl rfl (Nat.le_of_ble_eq_true rfl) dX1_init__16 (v_nw (fun h7 eh7 => ?_))
  have k8 : h7 a1 = some (.inr (4, [u0, u1, u2, u3, .int (nI lu), .int (gI gu), u6, u7])) := by rw [eh7, zup_ne _ _ hq1]; exact k5
  have k9 : h7 q = some (.inr (4, [.int kd, .int p, .ref a1, .null, .int 0, .int 0, .null, .null])) := by rw [eh7]; exact zup_self _ _ _
  refine v_aload_n C 0 rfl dX1_init__19 rfl ?_
  refine v_aloadN C 4 rfl dX1_init__20 ?_
  refine v_putF C [.int kd, .int p, .ref a1, .null, .int 0, .int 0, .null, .null] P_X1_22 hin k9 rfl rfl rfl (Nat.le_of_ble_eq_true rfl) dX1_init__22 (v_nw (fun h10 eh10 => ?_))
  have k11 : h10 a1 = some (.inr (4, [u0, u1, u2, u3, .int (nI lu), .int (gI gu), u6, u7])) := by rw [eh10, zup_ne _ _ hq1]; exact k8
  have k12 : h10 q = some (.inr (4, [.int kd, .int p, .ref a1, .null, .int 0, .int 0, .null, .null])) := by rw [eh10]; exact zup_self _ _ _
  refine v_aload_n C 0 rfl dX1_init__25 rfl ?_
  refine v_iconst (v := 1) C dX1_init__26 (by decide) ?_
  refine v_aload_n C 3 rfl dX1_init__27 rfl ?_
  refine v_callS (rest := [.int 1, .ref q]) C (c_X1_levelOf_r l hl G a1 lu _ _ _ _ .null _ _ _ h10 k11) S_X1_39 rfl rfl (Nat.le_of_ble_eq_true rfl) ⟨Nat.le_of_ble_eq_true rfl, Nat.le_of_ble_eq_true rfl⟩ ⟨Nat.le_of_ble_eq_true rfl, Nat.le_of_ble_eq_true rfl⟩ dX1_init__28 (fun i13 h13 q13 => ?_)
  obtain ⟨e13, rfl⟩ := q13
  subst e13
  refine v_aloadN C 4 rfl dX1_init__31 ?_
  refine v_callS (rest := [.int (nI lu), .int 1, .ref q]) C (c_X1_levelOf_n l hl G h10) S_X1_39 rfl rfl (Nat.le_of_ble_eq_true rfl) ⟨Nat.le_of_ble_eq_true rfl, Nat.le_of_ble_eq_true rfl⟩ ⟨Nat.le_of_ble_eq_true rfl, Nat.le_of_ble_eq_true rfl⟩ dX1_init__33 (fun i14 h14 q14 => ?_)
  obtain ⟨e14, rfl⟩ := q14
  rw [show (0 : Int32) = nI 0 by decide] at e14
  subst e14
  refine v_mmax C MM_X1_43 (Nat.le_of_ble_eq_true rfl) (Nat.le_of_ble_eq_true rfl) (Nat.le_of_ble_eq_true rfl) (Nat.le_of_ble_eq_true rfl) dX1_init__36 (v_topi (fun i15 e15 => ?_))
  subst e15
  refine v_eqi (mx_nI lu 0 (by omega) (by omega)) ?_
  refine v_iadd C dX1_init__39 (v_eqi (nI_kad (max lu 0) 1 (by decide)) ?_)
  refine v_putF C [.int kd, .int p, .ref a1, .null, .int (nI (1 + (max lu 0))), .int 0, .null, .null] P_X1_25 hin k12 rfl rfl rfl (Nat.le_of_ble_eq_true rfl) dX1_init__40 (v_nw (fun h17 eh17 => ?_))
  have k18 : h17 a1 = some (.inr (4, [u0, u1, u2, u3, .int (nI lu), .int (gI gu), u6, u7])) := by rw [eh17, zup_ne _ _ hq1]; exact k11
  have k19 : h17 q = some (.inr (4, [.int kd, .int p, .ref a1, .null, .int (nI (1 + (max lu 0))), .int 0, .null, .null])) := by rw [eh17]; exact zup_self _ _ _
  refine v_aload_n C 0 rfl dX1_init__43 rfl ?_
  refine v_aload_n C 3 rfl dX1_init__44 rfl ?_
  refine v_callS (rest := [.ref q]) C (c_X1_greatestTermOf_r l hl G a1 gu _ _ _ _ _ .null _ _ h17 k18) S_X1_49 rfl rfl (Nat.le_of_ble_eq_true rfl) ⟨Nat.le_of_ble_eq_true rfl, Nat.le_of_ble_eq_true rfl⟩ ⟨Nat.le_of_ble_eq_true rfl, Nat.le_of_ble_eq_true rfl⟩ dX1_init__45 (fun i20 h20 q20 => ?_)
  obtain ⟨e20, rfl⟩ := q20
  subst e20
  refine v_aloadN C 4 rfl dX1_init__48 ?_
  refine v_callS (rest := [.int (gI gu), .ref q]) C (c_X1_greatestTermOf_n l hl G h17) S_X1_49 rfl rfl (Nat.le_of_ble_eq_true rfl) ⟨Nat.le_of_ble_eq_true rfl, Nat.le_of_ble_eq_true rfl⟩ ⟨Nat.le_of_ble_eq_true rfl, Nat.le_of_ble_eq_true rfl⟩ dX1_init__50 (fun i21 h21 q21 => ?_)
  obtain ⟨e21, rfl⟩ := q21
  subst e21
  refine v_mmax C MM_X1_43 (Nat.le_of_ble_eq_true rfl) (Nat.le_of_ble_eq_true rfl) (Nat.le_of_ble_eq_true rfl) (Nat.le_of_ble_eq_true rfl) dX1_init__53 (v_topi (fun i22 e22 => ?_))
  subst e22
  refine v_eqi (mx_gI gu 0 (by omega) (by omega)) ?_
  refine v_putF C [.int kd, .int p, .ref a1, .null, .int (nI (1 + (max lu 0))), .int (gI (max gu 0)), .null, .null] P_X1_28 hin k19 rfl rfl rfl (Nat.le_of_ble_eq_true rfl) dX1_init__56 (v_nw (fun h23 eh23 => ?_))
  have k24 : h23 a1 = some (.inr (4, [u0, u1, u2, u3, .int (nI lu), .int (gI gu), u6, u7])) := by rw [eh23, zup_ne _ _ hq1]; exact k18
  have k25 : h23 q = some (.inr (4, [.int kd, .int p, .ref a1, .null, .int (nI (1 + (max lu 0))), .int (gI (max gu 0)), .null, .null])) := by rw [eh23]; exact zup_self _ _ _
  refine v_aload_n C 0 rfl dX1_init__59 rfl ?_
  refine v_aload C 5 rfl dX1_init__60 ?_
  refine v_putF C [.int kd, .int p, .ref a1, .null, .int (nI (1 + (max lu 0))), .int (gI (max gu 0)), .ref tx, .null] P_X1_31 hin k25 rfl rfl rfl (Nat.le_of_ble_eq_true rfl) dX1_init__62 (v_nw (fun h26 eh26 => ?_))
  have k27 : h26 a1 = some (.inr (4, [u0, u1, u2, u3, .int (nI lu), .int (gI gu), u6, u7])) := by rw [eh26, zup_ne _ _ hq1]; exact k24
  have k28 : h26 q = some (.inr (4, [.int kd, .int p, .ref a1, .null, .int (nI (1 + (max lu 0))), .int (gI (max gu 0)), .ref tx, .null])) := by rw [eh26]; exact zup_self _ _ _
  refine v_aload_n C 0 rfl dX1_init__65 rfl ?_
  refine v_bipush (v := 20) C dX1_init__66 (by decide) ?_
  refine v_newa (atype := .long) (N := 20) (z := (20, .inr (.inl (fun _ => 0)))) C 1 rfl rfl rfl AY_long (fun cA => rfl) (by decide) (by decide) (by decide) (Nat.le_of_ble_eq_true rfl) (Nat.le_of_ble_eq_true rfl) dX1_init__68 (fun q29 gq29 nq29 => v_nw (fun h29 eh29 => ?_))
  have k30 : h29 a1 = some (.inr (4, [u0, u1, u2, u3, .int (nI lu), .int (gI gu), u6, u7])) := by rw [eh29, zup_ne _ _ (zne_new nq29 k27)]; exact k27
  have k31 : h29 q = some (.inr (4, [.int kd, .int p, .ref a1, .null, .int (nI (1 + (max lu 0))), .int (gI (max gu 0)), .ref tx, .null])) := by rw [eh29, zup_ne _ _ (zne_new nq29 k28)]; exact k28
  have k32 : h29 q29 = some (.inl (gc G 1, 20, .inr (.inl (fun _ => 0)))) := by rw [eh29]; exact zup_self _ _ _
  refine v_putF C [.int kd, .int p, .ref a1, .null, .int (nI (1 + (max lu 0))), .int (gI (max gu 0)), .ref tx, .ref q29] P_X1_35 hin k31 rfl rfl rfl (Nat.le_of_ble_eq_true rfl) dX1_init__70 (v_nw (fun h33 eh33 => ?_))
  have k34 : h33 a1 = some (.inr (4, [u0, u1, u2, u3, .int (nI lu), .int (gI gu), u6, u7])) := by rw [eh33, zup_ne _ _ hq1]; exact k30
  have k35 : h33 q29 = some (.inl (gc G 1, 20, .inr (.inl (fun _ => 0)))) := by rw [eh33, zup_ne _ _ (Ne.symm (zne_new nq29 k28))]; exact k32
  have k36 : h33 q = some (.inr (4, [.int kd, .int p, .ref a1, .null, .int (nI (1 + (max lu 0))), .int (gI (max gu 0)), .ref tx, .ref q29])) := by rw [eh33]; exact zup_self _ _ _
  exact v_vret C hQ hr (Nat.le_of_ble_eq_true rfl) (Nat.le_of_ble_eq_true rfl) dX1_init__73 ⟨q29, k36, k35, (knoneS (zk_put (zk_put (zk_put (zk_put (zk_put (zk_put (zk_put (zk_rf _ _) eh1 rfl) eh4 rfl) eh7 rfl) eh10 rfl) eh17 rfl) eh23 rfl) eh26 rfl) nq29 (by rw [k28]; exact fun z => by cases z)), (zk_put (zk_new (zk_put (zk_put (zk_put (zk_put (zk_put (zk_put (zk_put (zk_rf _ _) eh1 rfl) eh4 rfl) eh7 rfl) eh10 rfl) eh17 rfl) eh23 rfl) eh26 rfl) eh29 nq29) eh33 rfl)⟩
theorem CQ_X3_10 : Cond.classLink RX3 10 "Covenanter$Formula" ∈ zT := (zT_of 703 (by decide +kernel) (by decide +kernel))
set_option maxHeartbeats 4000000 in
set_option maxRecDepth 100000 in
theorem c_X3_init (l : Launch) (hl : l.stackTraces = false) (G : zG) (q a : Nat) (lv : Int32) (w0 w1 w2 w3 w5 w6 w7 : Value) (h : zH) (hq0 : h q = some (.inr (6, [.int 0, .null, .int 0, .null]))) (ha : h a = some (.inr (4, [w0, w1, w2, w3, .int lv, w5, w6, w7]))) (hqa : a ≠ q) : zMet eV l yX3_init cX3_init 2 none 12 2 40 G [.ref q, .ref a] h (fun _ h2 => ∃ df vr, h2 q = some (.inr (6, [.int lv, .ref df, .int 1, .ref vr])) ∧ h2 df = some (.inl (gc G 6, 20, .inr (.inr (.inr (.inr (va_up (fun _ => none) (nI 0).toNatClampNeg (some a))))))) ∧ h2 vr = some (cL G (fun _ => 0)) ∧ h df = none ∧ h vr = none ∧ zKp (fun b => b = q) h h2) := by
  refine con_of hl RX3 rfl (by decide +kernel) [(0, .ref q), (1, .ref a)] rfl (Nat.le_of_ble_eq_true rfl) ?_
  intro zp ze zs zm zargs zbelow zmeth zc C hr hin Q hQ
  refine v_aload_n C 0 rfl dX3_init_0 rfl ?_
  refine v_objInit C O_X3_3 (Nat.le_of_ble_eq_true rfl) (Nat.le_of_ble_eq_true rfl) dX3_init_1 ?_
  refine v_aload_n C 0 rfl dX3_init_4 rfl ?_
  refine v_aload_n C 1 rfl dX3_init_5 rfl ?_
  refine v_get (v := .int lv) C F_X3_9 ha rfl dX3_init_6 ?_
  refine v_putF C [.int lv, .null, .int 0, .null] P_X3_15 hin hq0 rfl rfl rfl (Nat.le_of_ble_eq_true rfl) dX3_init_9 (v_nw (fun h1 eh1 => ?_))
  have k2 : h1 a = some (.inr (4, [w0, w1, w2, w3, .int lv, w5, w6, w7])) := by rw [eh1, zup_ne _ _ hqa]; exact ha
  have k3 : h1 q = some (.inr (6, [.int lv, .null, .int 0, .null])) := by rw [eh1]; exact zup_self _ _ _
  refine v_aload_n C 0 rfl dX3_init_12 rfl ?_
  refine v_bipush (v := 20) C dX3_init_13 (by decide) ?_
  refine v_newq (N := 20) C 6 rfl CQ_X3_10 AO_2 (by decide) (by decide) (by decide) (Nat.le_of_ble_eq_true rfl) (Nat.le_of_ble_eq_true rfl) dX3_init_15 (fun q4 gq4 nq4 => v_nw (fun h4 eh4 => ?_))
  have k5 : h4 a = some (.inr (4, [w0, w1, w2, w3, .int lv, w5, w6, w7])) := by rw [eh4, zup_ne _ _ (zne_new nq4 k2)]; exact k2
  have k6 : h4 q = some (.inr (6, [.int lv, .null, .int 0, .null])) := by rw [eh4, zup_ne _ _ (zne_new nq4 k3)]; exact k3
  have k7 : h4 q4 = some (.inl (gc G 6, 20, .inr (.inr (.inr (.inr (fun _ => none)))))) := by rw [eh4]; exact zup_self _ _ _
  refine v_putF C [.int lv, .ref q4, .int 0, .null] P_X3_18 hin k6 rfl rfl rfl (Nat.le_of_ble_eq_true rfl) dX3_init_18 (v_nw (fun h8 eh8 => ?_))
  have k9 : h8 a = some (.inr (4, [w0, w1, w2, w3, .int lv, w5, w6, w7])) := by rw [eh8, zup_ne _ _ hqa]; exact k5
  have k10 : h8 q4 = some (.inl (gc G 6, 20, .inr (.inr (.inr (.inr (fun _ => none)))))) := by rw [eh8, zup_ne _ _ (Ne.symm (zne_new nq4 k3))]; exact k7
  have k11 : h8 q = some (.inr (6, [.int lv, .ref q4, .int 0, .null])) := by rw [eh8]; exact zup_self _ _ _
  refine v_aload_n C 0 rfl dX3_init_21 rfl ?_
  refine v_get (v := .ref q4) C F_X3_18 k11 rfl dX3_init_22 ?_
  refine v_iconst (v := (nI 0)) C dX3_init_25 (by decide) ?_
  refine v_aload_n C 1 rfl dX3_init_26 rfl ?_
  refine v_aast C 6 rfl k10 k9 rfl (Or.inr rfl) (vpin (show 0 < 20 by omega) (by decide)) dX3_init_27 (v_nw (fun h12 eh12 => ?_))
  have k13 : h12 a = some (.inr (4, [w0, w1, w2, w3, .int lv, w5, w6, w7])) := by rw [eh12, zup_ne _ _ (zne_new nq4 k2)]; exact k9
  have k14 : h12 q = some (.inr (6, [.int lv, .ref q4, .int 0, .null])) := by rw [eh12, zup_ne _ _ (zne_new nq4 k3)]; exact k11
  have k15 : h12 q4 = some (.inl (gc G 6, 20, .inr (.inr (.inr (.inr (va_up (fun _ => none) ((nI 0) : Int32).toNatClampNeg (some a))))))) := by rw [eh12]; exact zup_self _ _ _
  refine v_aload_n C 0 rfl dX3_init_28 rfl ?_
  refine v_iconst (v := 1) C dX3_init_29 (by decide) ?_
  refine v_put C [.int lv, .ref q4, .int 1, .null] P_X3_22 k14 rfl rfl rfl (Nat.le_of_ble_eq_true rfl) dX3_init_30 (v_nw (fun h16 eh16 => ?_))
  have k17 : h16 a = some (.inr (4, [w0, w1, w2, w3, .int lv, w5, w6, w7])) := by rw [eh16, zup_ne _ _ hqa]; exact k13
  have k18 : h16 q4 = some (.inl (gc G 6, 20, .inr (.inr (.inr (.inr (va_up (fun _ => none) ((nI 0) : Int32).toNatClampNeg (some a))))))) := by rw [eh16, zup_ne _ _ (Ne.symm (zne_new nq4 k3))]; exact k15
  have k19 : h16 q = some (.inr (6, [.int lv, .ref q4, .int 1, .null])) := by rw [eh16]; exact zup_self _ _ _
  refine v_aload_n C 0 rfl dX3_init_33 rfl ?_
  refine v_bipush (v := 20) C dX3_init_34 (by decide) ?_
  refine v_newa (atype := .long) (N := 20) (z := (20, .inr (.inl (fun _ => 0)))) C 1 rfl rfl rfl AY_long (fun cA => rfl) (by decide) (by decide) (by decide) (Nat.le_of_ble_eq_true rfl) (Nat.le_of_ble_eq_true rfl) dX3_init_36 (fun q20 gq20 nq20 => v_nw (fun h20 eh20 => ?_))
  have k21 : h20 a = some (.inr (4, [w0, w1, w2, w3, .int lv, w5, w6, w7])) := by rw [eh20, zup_ne _ _ (zne_new nq20 k17)]; exact k17
  have k22 : h20 q4 = some (.inl (gc G 6, 20, .inr (.inr (.inr (.inr (va_up (fun _ => none) ((nI 0) : Int32).toNatClampNeg (some a))))))) := by rw [eh20, zup_ne _ _ (zne_new nq20 k18)]; exact k18
  have k23 : h20 q = some (.inr (6, [.int lv, .ref q4, .int 1, .null])) := by rw [eh20, zup_ne _ _ (zne_new nq20 k19)]; exact k19
  have k24 : h20 q20 = some (.inl (gc G 1, 20, .inr (.inl (fun _ => 0)))) := by rw [eh20]; exact zup_self _ _ _
  refine v_putF C [.int lv, .ref q4, .int 1, .ref q20] P_X3_25 hin k23 rfl rfl rfl (Nat.le_of_ble_eq_true rfl) dX3_init_38 (v_nw (fun h25 eh25 => ?_))
  have k26 : h25 a = some (.inr (4, [w0, w1, w2, w3, .int lv, w5, w6, w7])) := by rw [eh25, zup_ne _ _ hqa]; exact k21
  have k27 : h25 q4 = some (.inl (gc G 6, 20, .inr (.inr (.inr (.inr (va_up (fun _ => none) ((nI 0) : Int32).toNatClampNeg (some a))))))) := by rw [eh25, zup_ne _ _ (Ne.symm (zne_new nq4 k3))]; exact k22
  have k28 : h25 q20 = some (.inl (gc G 1, 20, .inr (.inl (fun _ => 0)))) := by rw [eh25, zup_ne _ _ (Ne.symm (zne_new nq20 k19))]; exact k24
  have k29 : h25 q = some (.inr (6, [.int lv, .ref q4, .int 1, .ref q20])) := by rw [eh25]; exact zup_self _ _ _
  exact v_vret C hQ hr (Nat.le_of_ble_eq_true rfl) (Nat.le_of_ble_eq_true rfl) dX3_init_41 ⟨q4, q20, k29, k27, k28, (knoneS (zk_put (zk_rf _ _) eh1 rfl) nq4 (by rw [k3]; exact fun z => by cases z)), (knoneS (zk_put (zk_pub (zk_put (zk_new (zk_put (zk_rf _ _) eh1 rfl) eh4 nq4) eh8 rfl) eh12 (knoneS (zk_put (zk_rf _ _) eh1 rfl) nq4 (by rw [k3]; exact fun z => by cases z))) eh16 rfl) nq20 (by rw [k19]; exact fun z => by cases z)), (zk_put (zk_new (zk_put (zk_pub (zk_put (zk_new (zk_put (zk_rf _ _) eh1 rfl) eh4 nq4) eh8 rfl) eh12 (knoneS (zk_put (zk_rf _ _) eh1 rfl) nq4 (by rw [k3]; exact fun z => by cases z))) eh16 rfl) eh20 nq20) eh25 rfl)⟩
theorem zup_ofF {h h2 : zH} {a : Nat} {e : va_E} (h1 : h2 a = some e) (hk : ∀ b, b ≠ a → h2 b = h b) : h2 = zup h a e := by
  funext b
  by_cases q : b = a
  · subst q; rw [h1, zup_self]
  · rw [zup_ne _ _ q, hk b q]
set_option maxHeartbeats 4000000 in
set_option maxRecDepth 100000 in
theorem c_X2_init (l : Launch) (hl : l.stackTraces = false) (G : zG) (q t b : Nat) (h : zH) (hq0 : h q = some (.inr (5, [.null, .null, .null, .int 0, .int 0, .int 0, .null, .int 0, .null]))) : zMet eV l yX2_init cX2_init 3 none 13 3 60 G [.ref q, .ref t, .ref b] h (fun _ h2 => ∃ rl rc rv f, h2 q = some (.inr (5, [.ref t, .ref b, .ref rl, .int 0, .int (-1), .int 0, .ref rc, .int 0, .ref rv])) ∧ h2 rl = some (.inl (gc G 0, 20, .inl f)) ∧ (∀ j, j < 20 → f j = -1) ∧ h2 rc = some (.inl (gc G 0, 20, .inl (fun _ => 0))) ∧ h2 rv = some (.inl (gc G 4, 20, .inl (fun _ => 0))) ∧ h rl = none ∧ h rc = none ∧ h rv = none ∧ (rl ≠ rc ∧ rl ≠ rv ∧ rc ≠ rv) ∧ zKp (fun b => b = q) h h2) := by
  refine con_of hl RX2 rfl (by decide +kernel) [(0, .ref q), (1, .ref t), (2, .ref b)] rfl (Nat.le_of_ble_eq_true rfl) ?_
  intro zp ze zs zm zargs zbelow zmeth zc C hr hin Q hQ
  refine v_aload_n C 0 rfl dX2_init_0 rfl ?_
  refine v_objInit C O_X2_3 (Nat.le_of_ble_eq_true rfl) (Nat.le_of_ble_eq_true rfl) dX2_init_1 ?_
  refine v_aload_n C 0 rfl dX2_init_4 rfl ?_
  refine v_aload_n C 1 rfl dX2_init_5 rfl ?_
  refine v_putF C [.ref t, .null, .null, .int 0, .int 0, .int 0, .null, .int 0, .null] P_X2_9 hin hq0 rfl rfl rfl (Nat.le_of_ble_eq_true rfl) dX2_init_6 (v_nw (fun h1 eh1 => ?_))
  have k2 : h1 q = some (.inr (5, [.ref t, .null, .null, .int 0, .int 0, .int 0, .null, .int 0, .null])) := by rw [eh1]; exact zup_self _ _ _
  refine v_aload_n C 0 rfl dX2_init_9 rfl ?_
  refine v_aload_n C 2 rfl dX2_init_10 rfl ?_
  refine v_putF C [.ref t, .ref b, .null, .int 0, .int 0, .int 0, .null, .int 0, .null] P_X2_15 hin k2 rfl rfl rfl (Nat.le_of_ble_eq_true rfl) dX2_init_11 (v_nw (fun h3 eh3 => ?_))
  have k4 : h3 q = some (.inr (5, [.ref t, .ref b, .null, .int 0, .int 0, .int 0, .null, .int 0, .null])) := by rw [eh3]; exact zup_self _ _ _
  refine v_aload_n C 0 rfl dX2_init_14 rfl ?_
  refine v_bipush (v := 20) C dX2_init_15 (by decide) ?_
  refine v_newa (atype := .int) (N := 20) (z := (20, .inl (fun _ => 0))) C 0 rfl rfl rfl AY_int (fun cA => rfl) (by decide) (by decide) (by decide) (Nat.le_of_ble_eq_true rfl) (Nat.le_of_ble_eq_true rfl) dX2_init_17 (fun q5 gq5 nq5 => v_nw (fun h5 eh5 => ?_))
  have k6 : h5 q = some (.inr (5, [.ref t, .ref b, .null, .int 0, .int 0, .int 0, .null, .int 0, .null])) := by rw [eh5, zup_ne _ _ (zne_new nq5 k4)]; exact k4
  have k7 : h5 q5 = some (.inl (gc G 0, 20, .inl (fun _ => 0))) := by rw [eh5]; exact zup_self _ _ _
  refine v_putF C [.ref t, .ref b, .ref q5, .int 0, .int 0, .int 0, .null, .int 0, .null] P_X2_18 hin k6 rfl rfl rfl (Nat.le_of_ble_eq_true rfl) dX2_init_19 (v_nw (fun h8 eh8 => ?_))
  have k9 : h8 q5 = some (.inl (gc G 0, 20, .inl (fun _ => 0))) := by rw [eh8, zup_ne _ _ (Ne.symm (zne_new nq5 k4))]; exact k7
  have k10 : h8 q = some (.inr (5, [.ref t, .ref b, .ref q5, .int 0, .int 0, .int 0, .null, .int 0, .null])) := by rw [eh8]; exact zup_self _ _ _
  refine v_aload_n C 0 rfl dX2_init_22 rfl ?_
  refine v_get (v := .ref q5) C F_X2_18 k10 rfl dX2_init_23 ?_
  refine v_iconst (v := (-1)) C dX2_init_26 (by decide) ?_
  refine v_callS (rest := []) C (c_J7_fill_53178 l hl G q5 20 (fun _ => 0) (-1) h8 k9 (by decide)) S_X2_22 rfl rfl (Nat.le_of_ble_eq_true rfl) ⟨Nat.le_of_ble_eq_true rfl, Nat.le_of_ble_eq_true rfl⟩ ⟨Nat.le_of_ble_eq_true rfl, Nat.le_of_ble_eq_true rfl⟩ dX2_init_27 (fun _ h11 w11 => ?_)
  obtain ⟨f11, kf11, ke11, kv11⟩ := w11
  have eh11 : h11 = zup h8 q5 (.inl (gc G 0, 20, .inl f11)) := zup_ofF kf11 ke11
  have k12 : h11 q = some (.inr (5, [.ref t, .ref b, .ref q5, .int 0, .int 0, .int 0, .null, .int 0, .null])) := by rw [eh11, zup_ne _ _ (zne_new nq5 k4)]; exact k10
  have k13 : h11 q5 = some (.inl (gc G 0, 20, .inl f11)) := by rw [eh11]; exact zup_self _ _ _
  refine v_aload_n C 0 rfl dX2_init_30 rfl ?_
  refine v_iconst (v := (-1)) C dX2_init_31 (by decide) ?_
  refine v_put C [.ref t, .ref b, .ref q5, .int 0, .int (-1), .int 0, .null, .int 0, .null] P_X2_28 k12 rfl rfl rfl (Nat.le_of_ble_eq_true rfl) dX2_init_32 (v_nw (fun h14 eh14 => ?_))
  have k15 : h14 q5 = some (.inl (gc G 0, 20, .inl f11)) := by rw [eh14, zup_ne _ _ (Ne.symm (zne_new nq5 k4))]; exact k13
  have k16 : h14 q = some (.inr (5, [.ref t, .ref b, .ref q5, .int 0, .int (-1), .int 0, .null, .int 0, .null])) := by rw [eh14]; exact zup_self _ _ _
  refine v_aload_n C 0 rfl dX2_init_35 rfl ?_
  refine v_bipush (v := 20) C dX2_init_36 (by decide) ?_
  refine v_newa (atype := .int) (N := 20) (z := (20, .inl (fun _ => 0))) C 0 rfl rfl rfl AY_int (fun cA => rfl) (by decide) (by decide) (by decide) (Nat.le_of_ble_eq_true rfl) (Nat.le_of_ble_eq_true rfl) dX2_init_38 (fun q17 gq17 nq17 => v_nw (fun h17 eh17 => ?_))
  have k18 : h17 q5 = some (.inl (gc G 0, 20, .inl f11)) := by rw [eh17, zup_ne _ _ (zne_new nq17 k15)]; exact k15
  have k19 : h17 q = some (.inr (5, [.ref t, .ref b, .ref q5, .int 0, .int (-1), .int 0, .null, .int 0, .null])) := by rw [eh17, zup_ne _ _ (zne_new nq17 k16)]; exact k16
  have k20 : h17 q17 = some (.inl (gc G 0, 20, .inl (fun _ => 0))) := by rw [eh17]; exact zup_self _ _ _
  refine v_putF C [.ref t, .ref b, .ref q5, .int 0, .int (-1), .int 0, .ref q17, .int 0, .null] P_X2_32 hin k19 rfl rfl rfl (Nat.le_of_ble_eq_true rfl) dX2_init_40 (v_nw (fun h21 eh21 => ?_))
  have k22 : h21 q5 = some (.inl (gc G 0, 20, .inl f11)) := by rw [eh21, zup_ne _ _ (Ne.symm (zne_new nq5 k4))]; exact k18
  have k23 : h21 q17 = some (.inl (gc G 0, 20, .inl (fun _ => 0))) := by rw [eh21, zup_ne _ _ (Ne.symm (zne_new nq17 k16))]; exact k20
  have k24 : h21 q = some (.inr (5, [.ref t, .ref b, .ref q5, .int 0, .int (-1), .int 0, .ref q17, .int 0, .null])) := by rw [eh21]; exact zup_self _ _ _
  refine v_aload_n C 0 rfl dX2_init_43 rfl ?_
  refine v_bipush (v := 20) C dX2_init_44 (by decide) ?_
  refine v_newa (atype := .boolean) (N := 20) (z := (20, .inl (fun _ => 0))) C 4 rfl rfl rfl AY_boolean (fun cA => rfl) (by decide) (by decide) (by decide) (Nat.le_of_ble_eq_true rfl) (Nat.le_of_ble_eq_true rfl) dX2_init_46 (fun q25 gq25 nq25 => v_nw (fun h25 eh25 => ?_))
  have k26 : h25 q5 = some (.inl (gc G 0, 20, .inl f11)) := by rw [eh25, zup_ne _ _ (zne_new nq25 k22)]; exact k22
  have k27 : h25 q17 = some (.inl (gc G 0, 20, .inl (fun _ => 0))) := by rw [eh25, zup_ne _ _ (zne_new nq25 k23)]; exact k23
  have k28 : h25 q = some (.inr (5, [.ref t, .ref b, .ref q5, .int 0, .int (-1), .int 0, .ref q17, .int 0, .null])) := by rw [eh25, zup_ne _ _ (zne_new nq25 k24)]; exact k24
  have k29 : h25 q25 = some (.inl (gc G 4, 20, .inl (fun _ => 0))) := by rw [eh25]; exact zup_self _ _ _
  refine v_putF C [.ref t, .ref b, .ref q5, .int 0, .int (-1), .int 0, .ref q17, .int 0, .ref q25] P_X2_35 hin k28 rfl rfl rfl (Nat.le_of_ble_eq_true rfl) dX2_init_48 (v_nw (fun h30 eh30 => ?_))
  have k31 : h30 q5 = some (.inl (gc G 0, 20, .inl f11)) := by rw [eh30, zup_ne _ _ (Ne.symm (zne_new nq5 k4))]; exact k26
  have k32 : h30 q17 = some (.inl (gc G 0, 20, .inl (fun _ => 0))) := by rw [eh30, zup_ne _ _ (Ne.symm (zne_new nq17 k16))]; exact k27
  have k33 : h30 q25 = some (.inl (gc G 4, 20, .inl (fun _ => 0))) := by rw [eh30, zup_ne _ _ (Ne.symm (zne_new nq25 k24))]; exact k29
  have k34 : h30 q = some (.inr (5, [.ref t, .ref b, .ref q5, .int 0, .int (-1), .int 0, .ref q17, .int 0, .ref q25])) := by rw [eh30]; exact zup_self _ _ _
  exact v_vret C hQ hr (Nat.le_of_ble_eq_true rfl) (Nat.le_of_ble_eq_true rfl) dX2_init_51 ⟨q5, q17, q25, _, k34, k31, kv11, k32, k33, (knoneS (zk_put (zk_put (zk_rf _ _) eh1 rfl) eh3 rfl) nq5 (by rw [k4]; exact fun z => by cases z)), (knoneS (zk_put (zk_pub (zk_put (zk_new (zk_put (zk_put (zk_rf _ _) eh1 rfl) eh3 rfl) eh5 nq5) eh8 rfl) eh11 (knoneS (zk_put (zk_put (zk_rf _ _) eh1 rfl) eh3 rfl) nq5 (by rw [k4]; exact fun z => by cases z))) eh14 rfl) nq17 (by rw [k16]; exact fun z => by cases z)), (knoneS (zk_put (zk_new (zk_put (zk_pub (zk_put (zk_new (zk_put (zk_put (zk_rf _ _) eh1 rfl) eh3 rfl) eh5 nq5) eh8 rfl) eh11 (knoneS (zk_put (zk_put (zk_rf _ _) eh1 rfl) eh3 rfl) nq5 (by rw [k4]; exact fun z => by cases z))) eh14 rfl) eh17 nq17) eh21 rfl) nq25 (by rw [k24]; exact fun z => by cases z)), ⟨(zne_new nq17 k15), (zne_new nq25 k22), (zne_new nq25 k23)⟩, (zk_put (zk_new (zk_put (zk_new (zk_put (zk_pub (zk_put (zk_new (zk_put (zk_put (zk_rf _ _) eh1 rfl) eh3 rfl) eh5 nq5) eh8 rfl) eh11 (knoneS (zk_put (zk_put (zk_rf _ _) eh1 rfl) eh3 rfl) nq5 (by rw [k4]; exact fun z => by cases z))) eh14 rfl) eh17 nq17) eh21 rfl) eh25 nq25) eh30 rfl)⟩
set_option maxHeartbeats 4000000 in
set_option maxRecDepth 100000 in
theorem c_X4_push (l : Launch) (hl : l.stackTraces = false) (G : zG) (x am l0 l1 l2 l3 : Nat) (a ar : Nat) (L : List Nat) (vs : List Value) (h : zH) (ho : h x = some (.inr (7, [.ref am, .ref l0, .ref l1, .ref l2, .ref l3]))) (hs : zAL G h l0 ar L) (hln : L.length < 10) (ha : h a = some (.inr (4, vs))) (hxl : x ≠ l0) (hxa : x ≠ ar) : zMet eI l yX4_push cX4_push 2 (some .int) 16 1 10 G [.ref x, .ref a] h (fun r h2 => r = nI (L.length + 1) ∧ ∃ ar2, zAL G h2 l0 ar2 (L ++ [a]) ∧ zSt h h2 l0 ar ar2) := by
  refine con_of hl RX4 rfl (by decide +kernel) [(0, .ref x), (1, .ref a)] rfl (Nat.le_of_ble_eq_true rfl) ?_
  intro zp ze zs zm zargs zbelow zmeth zc C hr hin Q hQ
  obtain ⟨mo, hA⟩ := hs.2.1
  refine v_aload_n C 0 rfl dX4_push_0 rfl ?_
  refine v_get (v := .ref l0) C F_X4_17 ho rfl dX4_push_1 ?_
  refine v_aload_n C 1 rfl dX4_push_4 rfl ?_
  refine v_callV (rest := []) C (c_Jx4a65c_add_9ea2d l hl G l0 ar L a 4 _ h hs hln ha (by decide) zob_4) K_X4_155 hA rfl rfl (Nat.le_of_ble_eq_true rfl) ⟨Nat.le_of_ble_eq_true rfl, Nat.le_of_ble_eq_true rfl⟩ ⟨Nat.le_of_ble_eq_true rfl, Nat.le_of_ble_eq_true rfl⟩ dX4_push_5 (fun i1 h1 w1 => ?_)
  obtain ⟨e1, ar1, al1, zs1⟩ := w1; subst e1
  have ho1 := zs1.1 x _ (fun z => z.elim hxl hxa) ho
  obtain ⟨mo1, hm1⟩ := al1.2.1
  refine v_pop C dX4_push_8 rfl ?_
  refine v_aload_n C 0 rfl dX4_push_9 rfl ?_
  refine v_get (v := .ref l0) C F_X4_17 ho1 rfl dX4_push_10 ?_
  refine v_callV (rest := []) C (c_Jx4a65c_size_8abf5 l hl G l0 ar1 (L ++ [a]) h1 al1) K_X4_60 hm1 rfl rfl (Nat.le_of_ble_eq_true rfl) ⟨Nat.le_of_ble_eq_true rfl, Nat.le_of_ble_eq_true rfl⟩ ⟨Nat.le_of_ble_eq_true rfl, Nat.le_of_ble_eq_true rfl⟩ dX4_push_13 (fun i2 h2 q2 => ?_)
  obtain ⟨e2, rfl⟩ := q2; subst e2
  exact v_iret C hQ hr rfl (Nat.le_of_ble_eq_true rfl) (Nat.le_of_ble_eq_true rfl) dX4_push_16 ⟨congrArg nI List.length_append, ar1, al1, zs1⟩
set_option maxHeartbeats 4000000 in
set_option maxRecDepth 100000 in
theorem c_X4_canAmend (l : Launch) (hl : l.stackTraces = false) (G : zG) (t b a lt la ga : Nat) (w1 w2 w3 : Value) (u0 u1 u2 u3 u6 u7 : Value) (h : zH) (ht : h t = some (.inr (6, [.int (nI lt), w1, w2, w3]))) (ha : h a = some (.inr (4, [u0, u1, u2, u3, .int (nI la), .int (gI ga), u6, u7]))) (h1 : lt < 2 ^ 29) (h2 : la < 2 ^ 29) (h3 : ga < 2 ^ 29) (h4 : b < 2 ^ 29) : zMet eI l yX4_canAmend cX4_canAmend 3 (some .boolean) 12 0 0 G [.ref t, .int (nI b), .ref a] h (fun r h2 => r = zb (la ≤ lt ∧ ga ≤ b) ∧ h = h2) := by
  refine con_of hl RX4 rfl (by decide +kernel) [(0, .ref t), (1, .int (nI b)), (2, .ref a)] rfl (Nat.le_of_ble_eq_true rfl) ?_
  intro zp ze zs zm zargs zbelow zmeth zc C hr hin Q hQ
  refine v_aload_n C 2 rfl dX4_canAmend_0 rfl ?_
  refine v_get (v := .int (nI la)) C F_X4_147 ha rfl dX4_canAmend_1 ?_
  refine v_aload_n C 0 rfl dX4_canAmend_4 rfl ?_
  refine v_get (v := .int (nI lt)) C F_X4_105 ht rfl dX4_canAmend_5 ?_
  refine v_icmp_gt (tgt := 23) C dX4_canAmend_8 (by decide) (fun c1 => ?_) (fun c1 => ?_)
  · have c1 := (nn_gt (a := la) (b := lt) (by omega) (by omega)).mp c1
    refine v_iconst (v := 0) C dX4_canAmend_23 (by decide) ?_
    exact v_iret C hQ hr rfl (Nat.le_of_ble_eq_true rfl) (Nat.le_of_ble_eq_true rfl) dX4_canAmend_24 ⟨(zb_f (by omega)).symm, rfl⟩
  · have c1 := (nn_gt_f (a := la) (b := lt) (by omega) (by omega)).mp c1
    refine v_aload_n C 2 rfl dX4_canAmend_11 rfl ?_
    refine v_get (v := .int (gI ga)) C F_X4_225 ha rfl dX4_canAmend_12 ?_
    refine v_iload_n C 1 rfl dX4_canAmend_15 rfl ?_
    refine v_icmp_ge (tgt := 23) C dX4_canAmend_16 (by decide) (fun c2 => ?_) (fun c2 => ?_)
    · have c2 := (le_gI (n := b) (g := ga) (by omega) (by omega)).mp c2
      refine v_iconst (v := 0) C dX4_canAmend_23 (by decide) ?_
      exact v_iret C hQ hr rfl (Nat.le_of_ble_eq_true rfl) (Nat.le_of_ble_eq_true rfl) dX4_canAmend_24 ⟨(zb_f (by omega)).symm, rfl⟩
    · have c2 := (not_congr (le_gI (n := b) (g := ga) (by omega) (by omega))).mp c2
      refine v_iconst (v := 1) C dX4_canAmend_19 (by decide) ?_
      refine v_goto (tgt := 24) C dX4_canAmend_20 (by decide) ?_
      exact v_iret C hQ hr rfl (Nat.le_of_ble_eq_true rfl) (Nat.le_of_ble_eq_true rfl) dX4_canAmend_24 ⟨(zb_t (by omega)).symm, rfl⟩
set_option maxHeartbeats 4000000 in
set_option maxRecDepth 100000 in
theorem c_X4_textIn (l : Launch) (hl : l.stackTraces = false) (G : zG) (x t q : Nat) (g : XGh) (s : ZS) (h : zH) (hi : XI G h g x s) (hw : WFs s) (ht : t < oN s) (hq : q < 20) : zMet eR l yX4_textIn cX4_textIn 4 (some (.object "java/lang/String")) 12 0 0 G [.ref (qA g 3 t), .int (nI q)] h (fun r h2 => (∃ a, r = qN g a 1 ∧ qR g a = (11, 0) ∧ shd (oD s t) q = some (qT g a)) ∧ h = h2) := by
  refine con_of hl RX4 rfl (by decide +kernel) [(0, .ref (qA g 3 t)), (1, .int (nI q))] rfl (Nat.le_of_ble_eq_true rfl) ?_
  intro zp ze zs zm zargs zbelow zmeth zc C hr hin Q hQ
  obtain ⟨⟨hO, hA, ⟨hL0, hL1, hL2, hL3⟩, hS, hN, hT, hR, hB⟩, hV⟩ := id hi
  obtain ⟨r3, r4, r5, t3, ⟨fd, t4, hdf⟩, -⟩ := hT t ht
  obtain ⟨-, -, hD0, -⟩ := hw.2.2.1.2.1 t ht
  refine v_iload_n C 1 rfl dX4_textIn_0 rfl ?_
  refine v_istore_n C [(2, .int (nI q)), (0, .ref (qA g 3 t)), (1, .int (nI q))] rfl (by decide) dX4_textIn_1 rfl ?_
  have L1 : ∀ (d : Nat) (c : Nat), (c ≤ q) → (shd (oD s t) q = shd (oD s t) c) → (c + 1 ≤ d) → V zp l ze (rmm 12 0 0) zs zm zargs zbelow zmeth zc G 4 Q h (0) (0) 2 [(2, .int (nI c)), (0, .ref (qA g 3 t)), (1, .int (nI q))] [] := by
    intro d
    induction d with
    | zero =>
      intro c hc hsd hd
      exact absurd hd (by omega)
    | succ d ih1 =>
      intro c hc hsd hd
      refine v_iload_n C 0 rfl dX4_textIn_2 rfl ?_
      refine v_if_lt (tgt := 28) C dX4_textIn_3 (by decide) (fun c2 => absurd ((nk_lt (a := c) 0 (by decide) (by omega) (by decide)).mp c2) (by omega)) (fun c2 => ?_)
      have c2 := (nk_lt_f (a := c) 0 (by decide) (by omega) (by decide)).mp c2
      refine v_aload_n C 1 rfl dX4_textIn_6 rfl ?_
      refine v_get (v := .ref (qA g 4 t)) C F_X4_203 t3 rfl dX4_textIn_7 ?_
      refine v_iload_n C 0 rfl dX4_textIn_10 rfl ?_
      rcases hdf c (by omega) with ⟨z1, z2⟩ | ⟨b3, z1, z2, z3⟩
      · refine v_aald C 6 rfl rfl t4 (vpin (show c < 20 by omega) (by decide)) dX4_textIn_11 ?_
        rw [nI_clamp (show c < 2 ^ 31 by omega), z1]
        refine v_astore_nN C [(3, .null), (2, .int (nI c)), (0, .ref (qA g 3 t)), (1, .int (nI q))] rfl (by decide) dX4_textIn_12 rfl ?_
        refine v_aload_nN C 0 rfl dX4_textIn_13 rfl ?_
        refine v_ifnullN (tgt := 22) C dX4_textIn_14 (by decide) ?_
        have hc0 : c ≠ 0 := fun z => by rw [z] at z2; exact hD0 z2
        refine v_iinc C 1 [(2, .int (nI (c - 1))), (3, .null), (0, .ref (qA g 3 t)), (1, .int (nI q))] rfl (nI_dec (p := c) (by omega)) rfl (by decide) dX4_textIn_22 ?_
        refine v_goto (tgt := 2) C dX4_textIn_25 (by decide) ?_
        refine v_lvp [0, 2, 3] rfl ?_
        exact ih1 (c - 1) (by omega) (hsd.trans (shd_next (by omega) z2)) (by omega)
      · refine v_aald C 6 rfl rfl t4 (vpin (show c < 20 by omega) (by decide)) dX4_textIn_11 ?_
        rw [nI_clamp (show c < 2 ^ 31 by omega), z1]
        obtain ⟨-, -, -, -, -, kx, px, cx, cy, hc, -⟩ := hN _ z2
        refine v_astore_n C [(3, .ref b3), (2, .int (nI c)), (0, .ref (qA g 3 t)), (1, .int (nI q))] rfl (by decide) dX4_textIn_12 rfl ?_
        refine v_aload_n C 0 rfl dX4_textIn_13 rfl ?_
        refine v_ifnull C dX4_textIn_14 ?_
        refine v_aload_n C 0 rfl dX4_textIn_17 rfl ?_
        refine v_get (v := .ref (qN g b3 1)) C F_X4_128 hc rfl dX4_textIn_18 ?_
        exact v_aret C hQ hr (Or.inl ⟨_, rfl⟩) (Nat.le_of_ble_eq_true rfl) (Nat.le_of_ble_eq_true rfl) dX4_textIn_21 ⟨⟨b3, rfl, z2, hsd.trans (shd_some z3)⟩, rfl⟩
  refine v_lvp [0, 1, 2] rfl ?_
  exact L1 (q + 1) q (Nat.le_refl _) rfl (by omega)

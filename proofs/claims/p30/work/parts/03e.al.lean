/-! lists -/
def zAL (G : zG) (h : zH) (a ar : Nat) (L : List Nat) : Prop := L.length ≤ 10 ∧ (∃ mo : Int32, h a = some (.inr (2, [.int mo, .ref ar, .int (nI L.length)]))) ∧ ((L = [] ∧ ar = gs G 0) ∨ ∃ f : Nat → Option Nat, h ar = some (.inl (gc G 5, 10, .inr (.inr (.inr (.inr f))))) ∧ ∀ j, j < L.length → f j = some (L.getD j 0))
def zOb (ci : Nat) : Prop := ∃ r : vw_C, zCl[ci]? = some r ∧ (Cond.castable r.1 "java/lang/Object" ∈ zT ∨ r.1 = "java/lang/Object")
theorem zob_3 : zOb 3 := ⟨_, rfl, Or.inl CO_X0⟩
theorem zob_4 : zOb 4 := ⟨_, rfl, Or.inl CO_X1⟩
theorem zob_5 : zOb 5 := ⟨_, rfl, Or.inl CO_X2⟩
theorem zob_6 : zOb 6 := ⟨_, rfl, Or.inl CO_X3⟩
theorem vu_s {f : Nat → Option Nat} {k : Nat} {x : Option Nat} : va_up f k x k = x := if_pos rfl
theorem vu_n {f : Nat → Option Nat} {k j : Nat} {x : Option Nat} (h : j ≠ k) : va_up f k x j = f j := if_neg h
theorem snoc_get {L : List Nat} {x j : Nat} (h : j < L.length) : (L ++ [x]).getD j 0 = L.getD j 0 := by
  rw [List.getD_eq_getElem?_getD, List.getD_eq_getElem?_getD, List.getElem?_append_left h]
theorem snoc_last {L : List Nat} {x : Nat} : (L ++ [x]).getD L.length 0 = x := by
  rw [List.getD_eq_getElem?_getD, List.getElem?_append_right (Nat.le_refl _)]; simp
theorem drop_get {L : List Nat} {j : Nat} (h : j < L.length - 1) : L.dropLast.getD j 0 = L.getD j 0 := by
  rw [List.getD_eq_getElem?_getD, List.getD_eq_getElem?_getD, List.getElem?_dropLast, if_pos h]
theorem zne_qq {h : zH} {a b : Nat} {x y : ClassId} {n k : Nat} {f g : Nat → Option Nat} (ha : h a = some (.inl (x, n, .inr (.inr (.inr (.inr f)))))) (hb : h b = some (.inl (y, k, .inr (.inr (.inr (.inr g)))))) (hn : n ≠ k) : b ≠ a := zne_sh ha hb (fun q => by injection q with q; injection q with _ q; injection q with q _; exact hn q)
theorem CQ_Jx4a65c_7 : Cond.classLink RJx4a65c 7 "java/lang/Object" ∈ zT := (zT_of 598 (by decide +kernel) (by decide +kernel))
set_option maxHeartbeats 4000000 in
set_option maxRecDepth 100000 in
theorem c_Jxa1e45_init_da8c8 (l : Launch) (hl : l.stackTraces = false) (G : zG) (a : Nat) (h : zH)  : zMet eV l yJxa1e45_init_da8c8 cJxa1e45_init_da8c8 1 none 12 0 0 G [.ref a] h (fun _ h2 => h = h2) := by
  refine con_of hl RJxa1e45 rfl (by decide +kernel) [(0, .ref a)] rfl (Nat.le_of_ble_eq_true rfl) ?_
  intro zp ze zs zm zargs zbelow zmeth zc C hr hin Q hQ
  refine v_aload_n C 0 rfl dJxa1e45_init_da8c8_0 rfl ?_
  refine v_objInit C O_Jxa1e45_1 (Nat.le_of_ble_eq_true rfl) (Nat.le_of_ble_eq_true rfl) dJxa1e45_init_da8c8_1 ?_
  exact v_vret C hQ hr (Nat.le_of_ble_eq_true rfl) (Nat.le_of_ble_eq_true rfl) dJxa1e45_init_da8c8_4 rfl
set_option maxHeartbeats 4000000 in
set_option maxRecDepth 100000 in
theorem c_Jxc12de_init_da8c8 (l : Launch) (hl : l.stackTraces = false) (G : zG) (a : Nat) (h : zH) (h0 : h a = some (.inr (2, [.int 0, .null, .int 0]))) : zMet eV l yJxc12de_init_da8c8 cJxc12de_init_da8c8 1 none 13 0 0 G [.ref a] h (fun _ h2 => h2 = zup h a (.inr (2, [.int 0, .null, .int 0]))) := by
  refine con_of hl RJxc12de rfl (by decide +kernel) [(0, .ref a)] rfl (Nat.le_of_ble_eq_true rfl) ?_
  intro zp ze zs zm zargs zbelow zmeth zc C hr hin Q hQ
  refine v_aload_n C 0 rfl dJxc12de_init_da8c8_0 rfl ?_
  refine v_callI (rest := []) C (c_Jxa1e45_init_da8c8 l hl G a h) I_Jxc12de_1 rfl rfl (Nat.le_of_ble_eq_true rfl) ⟨Nat.le_of_ble_eq_true rfl, Nat.le_of_ble_eq_true rfl⟩ ⟨Nat.le_of_ble_eq_true rfl, Nat.le_of_ble_eq_true rfl⟩ dJxc12de_init_da8c8_1 (fun h1 q1 => ?_)
  subst q1
  refine v_aload_n C 0 rfl dJxc12de_init_da8c8_4 rfl ?_
  refine v_iconst (v := 0) C dJxc12de_init_da8c8_5 (by decide) ?_
  refine v_put C [.int 0, .null, .int 0] P_Jxc12de_7 h0 rfl rfl rfl (Nat.le_of_ble_eq_true rfl) dJxc12de_init_da8c8_6 (v_nw (fun h2 eh2 => ?_))
  have k3 : h2 a = some (.inr (2, [.int 0, .null, .int 0])) := by rw [eh2]; exact zup_self _ _ _
  exact v_vret C hQ hr (Nat.le_of_ble_eq_true rfl) (Nat.le_of_ble_eq_true rfl) dJxc12de_init_da8c8_9 eh2
set_option maxHeartbeats 4000000 in
set_option maxRecDepth 100000 in
theorem c_Jx4a65c_init_da8c8 (l : Launch) (hl : l.stackTraces = false) (G : zG) (a : Nat) (h : zH) (h0 : h a = some (.inr (2, [.int 0, .null, .int 0]))) : zMet eV l yJx4a65c_init_da8c8 cJx4a65c_init_da8c8 1 none 14 0 0 G [.ref a] h (fun _ h2 => zAL G h2 a (gs G 0) [] ∧ zKp (fun b => b = a) h h2) := by
  refine con_of hl RJx4a65c rfl (by decide +kernel) [(0, .ref a)] rfl (Nat.le_of_ble_eq_true rfl) ?_
  intro zp ze zs zm zargs zbelow zmeth zc C hr hin Q hQ
  refine v_aload_n C 0 rfl dJx4a65c_init_da8c8_0 rfl ?_
  refine v_callI (rest := []) C (c_Jxc12de_init_da8c8 l hl G a h h0) I_Jx4a65c_1 rfl rfl (Nat.le_of_ble_eq_true rfl) ⟨Nat.le_of_ble_eq_true rfl, Nat.le_of_ble_eq_true rfl⟩ ⟨Nat.le_of_ble_eq_true rfl, Nat.le_of_ble_eq_true rfl⟩ dJx4a65c_init_da8c8_1 (fun h1 eh1 => ?_)
  have k2 : h1 a = some (.inr (2, [.int 0, .null, .int 0])) := by rw [eh1]; exact zup_self _ _ _
  refine v_aload_n C 0 rfl dJx4a65c_init_da8c8_4 rfl ?_
  refine v_gets C C.2.2.2.2.2.2.1.1.2.1 G_Jx4a65c_39 dJx4a65c_init_da8c8_5 ?_
  refine v_put C [.int 0, .ref (gs G 0), .int 0] P_Jx4a65c_9 k2 rfl rfl rfl (Nat.le_of_ble_eq_true rfl) dJx4a65c_init_da8c8_8 (v_nw (fun h3 eh3 => ?_))
  have k4 : h3 a = some (.inr (2, [.int 0, .ref (gs G 0), .int 0])) := by rw [eh3]; exact zup_self _ _ _
  exact v_vret C hQ hr (Nat.le_of_ble_eq_true rfl) (Nat.le_of_ble_eq_true rfl) dJx4a65c_init_da8c8_11 ⟨⟨Nat.zero_le _, ⟨0, k4⟩, Or.inl ⟨rfl, rfl⟩⟩, (zk_put (zk_put (zk_rf _ _) eh1 rfl) eh3 rfl)⟩
set_option maxHeartbeats 4000000 in
set_option maxRecDepth 100000 in
theorem c_Jx4a65c_size_8abf5 (l : Launch) (hl : l.stackTraces = false) (G : zG) (a ar : Nat) (L : List Nat) (h : zH) (hs : zAL G h a ar L) : zMet eI l yJx4a65c_size_8abf5 cJx4a65c_size_8abf5 1 (some .int) 12 0 0 G [.ref a] h (fun r h2 => r = nI L.length ∧ h = h2) := by
  refine con_of hl RJx4a65c rfl (by decide +kernel) [(0, .ref a)] rfl (Nat.le_of_ble_eq_true rfl) ?_
  intro zp ze zs zm zargs zbelow zmeth zc C hr hin Q hQ
  obtain ⟨hl10, ⟨mo, hA⟩, hx⟩ := id hs
  refine v_aload_n C 0 rfl dJx4a65c_size_8abf5_0 rfl ?_
  refine v_get (v := .int (nI L.length)) C F_Jx4a65c_48 hA rfl dJx4a65c_size_8abf5_1 ?_
  exact v_iret C hQ hr rfl (Nat.le_of_ble_eq_true rfl) (Nat.le_of_ble_eq_true rfl) dJx4a65c_size_8abf5_4 ⟨rfl, rfl⟩
set_option maxHeartbeats 4000000 in
set_option maxRecDepth 100000 in
theorem c_Jx4a65c_elementData_915e3 (l : Launch) (hl : l.stackTraces = false) (G : zG) (a ar : Nat) (L : List Nat) (j : Nat) (h : zH) (hs : zAL G h a ar L) (hj : j < L.length) : zMet eR l yJx4a65c_elementData_915e3 cJx4a65c_elementData_915e3 2 (some (.object "java/lang/Object")) 12 0 0 G [.ref a, .int (nI j)] h (fun r h2 => r = L.getD j 0 ∧ h = h2) := by
  refine con_of hl RJx4a65c rfl (by decide +kernel) [(0, .ref a), (1, .int (nI j))] rfl (Nat.le_of_ble_eq_true rfl) ?_
  intro zp ze zs zm zargs zbelow zmeth zc C hr hin Q hQ
  obtain ⟨hl10, ⟨mo, hA⟩, hx⟩ := id hs
  obtain ⟨f, hB, hf⟩ : ∃ f : Nat → Option Nat, h ar = some (.inl (gc G 5, 10, .inr (.inr (.inr (.inr f))))) ∧ ∀ j, j < L.length → f j = some (L.getD j 0) := by
    rcases hx with ⟨rfl, -⟩ | hx
    · exact absurd hj (by simp)
    · exact hx
  refine v_aload_n C 0 rfl dJx4a65c_elementData_915e3_0 rfl ?_
  refine v_get (v := .ref ar) C F_Jx4a65c_9 hA rfl dJx4a65c_elementData_915e3_1 ?_
  refine v_iload_n C 1 rfl dJx4a65c_elementData_915e3_4 rfl ?_
  refine v_aald C 5 rfl rfl hB (vpin (by omega) (by decide)) dJx4a65c_elementData_915e3_5 ?_
  rw [nI_clamp (show j < 2 ^ 31 by omega), hf j hj]
  exact v_aret C hQ hr (Or.inl ⟨_, rfl⟩) (Nat.le_of_ble_eq_true rfl) (Nat.le_of_ble_eq_true rfl) dJx4a65c_elementData_915e3_6 ⟨rfl, rfl⟩
set_option maxHeartbeats 4000000 in
set_option maxRecDepth 100000 in
theorem c_Jx4a65c_get_915e3 (l : Launch) (hl : l.stackTraces = false) (G : zG) (a ar : Nat) (L : List Nat) (j : Nat) (h : zH) (hs : zAL G h a ar L) (hj : j < L.length) : zMet eR l yJx4a65c_get_915e3 cJx4a65c_get_915e3 2 (some (.object "java/lang/Object")) 14 0 0 G [.ref a, .int (nI j)] h (fun r h2 => r = L.getD j 0 ∧ h = h2) := by
  refine con_of hl RJx4a65c rfl (by decide +kernel) [(0, .ref a), (1, .int (nI j))] rfl (Nat.le_of_ble_eq_true rfl) ?_
  intro zp ze zs zm zargs zbelow zmeth zc C hr hin Q hQ
  obtain ⟨hl10, ⟨mo, hA⟩, hx⟩ := id hs
  refine v_iload_n C 1 rfl dJx4a65c_get_915e3_0 rfl ?_
  refine v_aload_n C 0 rfl dJx4a65c_get_915e3_1 rfl ?_
  refine v_get (v := .int (nI L.length)) C F_Jx4a65c_48 hA rfl dJx4a65c_get_915e3_2 ?_
  refine v_callS (rest := []) C (c_J15_checkIndex_7cf53 l hl G j L.length h (by omega) (by omega)) S_Jx4a65c_118 rfl rfl (Nat.le_of_ble_eq_true rfl) ⟨Nat.le_of_ble_eq_true rfl, Nat.le_of_ble_eq_true rfl⟩ ⟨Nat.le_of_ble_eq_true rfl, Nat.le_of_ble_eq_true rfl⟩ dJx4a65c_get_915e3_5 (fun i1 h1 q1 => ?_)
  obtain ⟨e1, rfl⟩ := q1; subst e1
  refine v_pop C dJx4a65c_get_915e3_8 rfl ?_
  refine v_aload_n C 0 rfl dJx4a65c_get_915e3_9 rfl ?_
  refine v_iload_n C 1 rfl dJx4a65c_get_915e3_10 rfl ?_
  refine v_callV (rest := []) C (c_Jx4a65c_elementData_915e3 l hl G a ar L j h hs hj) K_Jx4a65c_123 hA rfl rfl (Nat.le_of_ble_eq_true rfl) ⟨Nat.le_of_ble_eq_true rfl, Nat.le_of_ble_eq_true rfl⟩ ⟨Nat.le_of_ble_eq_true rfl, Nat.le_of_ble_eq_true rfl⟩ dJx4a65c_get_915e3_11 (fun i2 h2 q2 => ?_)
  obtain ⟨e2, rfl⟩ := q2; obtain rfl := e2.symm
  exact v_aret C hQ hr (Or.inl ⟨_, rfl⟩) (Nat.le_of_ble_eq_true rfl) (Nat.le_of_ble_eq_true rfl) dJx4a65c_get_915e3_14 ⟨rfl, rfl⟩
set_option maxHeartbeats 4000000 in
set_option maxRecDepth 100000 in
theorem c_Jx4a65c_grow_92f84 (l : Launch) (hl : l.stackTraces = false) (G : zG) (a : Nat) (mo : Int32) (h : zH) (hA : h a = some (.inr (2, [.int mo, .ref (gs G 0), .int 0]))) : zMet eR l yJx4a65c_grow_92f84 cJx4a65c_grow_92f84 4 (some (.array (.object "java/lang/Object"))) 12 1 10 G [.ref a, .int 1] h (fun r h2 => h r = none ∧ h2 a = some (.inr (2, [.int mo, .ref r, .int 0])) ∧ h2 r = some (.inl (gc G 5, 10, .inr (.inr (.inr (.inr (fun _ => none)))))) ∧ zKp (fun b => b = a) h h2) := by
  refine con_of hl RJx4a65c rfl (by decide +kernel) [(0, .ref a), (1, .int 1)] rfl (Nat.le_of_ble_eq_true rfl) ?_
  intro zp ze zs zm zargs zbelow zmeth zc C hr hin Q hQ
  refine v_aload_n C 0 rfl dJx4a65c_grow_92f84_0 rfl ?_
  refine v_get (v := .ref (gs G 0)) C F_Jx4a65c_9 hA rfl dJx4a65c_grow_92f84_1 ?_
  refine v_tlen (v := 0) C C.2.2.2.2.2.2.1.1.2.2.1 rfl dJx4a65c_grow_92f84_4 ?_
  refine v_istore_n C [(2, .int 0), (0, .ref a), (1, .int 1)] rfl (by decide) dJx4a65c_grow_92f84_5 rfl ?_
  refine v_iload_n C 0 rfl dJx4a65c_grow_92f84_6 rfl ?_
  refine v_if_gt (tgt := 20) C dJx4a65c_grow_92f84_7 (by decide) (fun c1 => absurd c1 (by decide)) (fun c1 => ?_)
  refine v_aload_n C 1 rfl dJx4a65c_grow_92f84_10 rfl ?_
  refine v_get (v := .ref (gs G 0)) C F_Jx4a65c_9 hA rfl dJx4a65c_grow_92f84_11 ?_
  refine v_gets C C.2.2.2.2.2.2.1.1.2.1 G_Jx4a65c_39 dJx4a65c_grow_92f84_14 ?_
  refine v_acmp_eq (rx := some (gs G 0)) (ry := some (gs G 0)) (tgt := 45) C dJx4a65c_grow_92f84_17 (by decide) (fun _ => ?_) (fun z => absurd rfl z)
  refine v_aload_n C 1 rfl dJx4a65c_grow_92f84_45 rfl ?_
  refine v_bipush (v := 10) C dJx4a65c_grow_92f84_46 (by decide) ?_
  refine v_iload_n C 2 rfl dJx4a65c_grow_92f84_48 rfl ?_
  refine v_mmax C MM_Jx4a65c_79 (Nat.le_of_ble_eq_true rfl) (Nat.le_of_ble_eq_true rfl) (Nat.le_of_ble_eq_true rfl) (Nat.le_of_ble_eq_true rfl) dJx4a65c_grow_92f84_49 (v_topi (fun i2 e2 => ?_))
  subst e2
  refine v_eqi (y := 10) (by decide) ?_
  refine v_newq (N := 10) C 5 rfl CQ_Jx4a65c_7 AO_1 (by decide) (by decide) (by decide) (Nat.le_of_ble_eq_true rfl) (Nat.le_of_ble_eq_true rfl) dJx4a65c_grow_92f84_52 (fun q3 gq3 nq3 => v_nw (fun h3 eh3 => ?_))
  have k4 : h3 a = some (.inr (2, [.int mo, .ref (gs G 0), .int 0])) := by rw [eh3, zup_ne _ _ (zne_new nq3 hA)]; exact hA
  have k5 : h3 q3 = some (.inl (gc G 5, 10, .inr (.inr (.inr (.inr (fun _ => none)))))) := by rw [eh3]; exact zup_self _ _ _
  refine v_dup_x1 C dJx4a65c_grow_92f84_55 rfl rfl ?_
  refine v_put C [.int mo, .ref q3, .int 0] P_Jx4a65c_9 k4 rfl rfl rfl (Nat.le_of_ble_eq_true rfl) dJx4a65c_grow_92f84_56 (v_nw (fun h6 eh6 => ?_))
  have k7 : h6 q3 = some (.inl (gc G 5, 10, .inr (.inr (.inr (.inr (fun _ => none)))))) := by rw [eh6, zup_ne _ _ (Ne.symm (zne_new nq3 hA))]; exact k5
  have k8 : h6 a = some (.inr (2, [.int mo, .ref q3, .int 0])) := by rw [eh6]; exact zup_self _ _ _
  exact v_aret C hQ hr (Or.inr ⟨_, rfl⟩) (Nat.le_of_ble_eq_true rfl) (Nat.le_of_ble_eq_true rfl) dJx4a65c_grow_92f84_59 ⟨nq3, k8, k7, (zk_put (zk_new (zk_rf _ _) eh3 nq3) eh6 rfl)⟩
set_option maxHeartbeats 4000000 in
set_option maxRecDepth 100000 in
theorem c_Jx4a65c_grow_d5877 (l : Launch) (hl : l.stackTraces = false) (G : zG) (a : Nat) (mo : Int32) (h : zH) (hA : h a = some (.inr (2, [.int mo, .ref (gs G 0), .int 0]))) : zMet eR l yJx4a65c_grow_d5877 cJx4a65c_grow_d5877 1 (some (.array (.object "java/lang/Object"))) 13 1 10 G [.ref a] h (fun r h2 => h r = none ∧ h2 a = some (.inr (2, [.int mo, .ref r, .int 0])) ∧ h2 r = some (.inl (gc G 5, 10, .inr (.inr (.inr (.inr (fun _ => none)))))) ∧ zKp (fun b => b = a) h h2) := by
  refine con_of hl RJx4a65c rfl (by decide +kernel) [(0, .ref a)] rfl (Nat.le_of_ble_eq_true rfl) ?_
  intro zp ze zs zm zargs zbelow zmeth zc C hr hin Q hQ
  refine v_aload_n C 0 rfl dJx4a65c_grow_d5877_0 rfl ?_
  refine v_aload_n C 0 rfl dJx4a65c_grow_d5877_1 rfl ?_
  refine v_get (v := .int 0) C F_Jx4a65c_48 hA rfl dJx4a65c_grow_d5877_2 ?_
  refine v_iconst (v := 1) C dJx4a65c_grow_d5877_5 (by decide) ?_
  refine v_iadd C dJx4a65c_grow_d5877_6 (v_eqi (y := 1) (by decide) ?_)
  refine v_callV (rest := []) C (c_Jx4a65c_grow_92f84 l hl G a mo h hA) K_Jx4a65c_69 hA rfl rfl (Nat.le_of_ble_eq_true rfl) ⟨Nat.le_of_ble_eq_true rfl, Nat.le_of_ble_eq_true rfl⟩ ⟨Nat.le_of_ble_eq_true rfl, Nat.le_of_ble_eq_true rfl⟩ dJx4a65c_grow_d5877_7 (fun q2 h2 w2 => ?_)
  obtain ⟨nq2, ca2, cq2, kp2⟩ := w2
  exact v_aret C hQ hr (Or.inr ⟨_, rfl⟩) (Nat.le_of_ble_eq_true rfl) (Nat.le_of_ble_eq_true rfl) dJx4a65c_grow_d5877_10 ⟨nq2, ca2, cq2, kp2⟩
theorem al_snoc {L : List Nat} {f : Nat → Option Nat} {x : Nat} (hf : ∀ j, j < L.length → f j = some (L.getD j 0)) (hl : L.length < 2 ^ 31) {j : Nat} (hj : j < (L ++ [x]).length) : va_up f (nI L.length).toNatClampNeg (some x) j = some ((L ++ [x]).getD j 0) := by
  rw [nI_clamp hl]
  rw [List.length_append] at hj
  by_cases q : j = L.length
  · subst q; rw [vu_s, snoc_last]
  · have : j < L.length := by simp at hj; omega
    rw [vu_n q, hf j this, snoc_get this]
set_option maxHeartbeats 4000000 in
set_option maxRecDepth 100000 in
theorem c_Jx4a65c_add_72be8 (l : Launch) (hl : l.stackTraces = false) (G : zG) (a ar : Nat) (L : List Nat) (x ci : Nat) (vs : List Value) (h : zH) (hs : zAL G h a ar L) (hn : L.length < 10) (hX : h x = some (.inr (ci, vs))) (hc2 : 2 ≠ ci) (hco : zOb ci) : zMet eV l yJx4a65c_add_72be8 cJx4a65c_add_72be8 4 none 14 1 10 G [.ref a, .ref x, .ref ar, .int (nI L.length)] h (fun _ h2 => ∃ ar2, zAL G h2 a ar2 (L ++ [x]) ∧ zSt h h2 a ar ar2) := by
  refine con_of hl RJx4a65c rfl (by decide +kernel) [(0, .ref a), (1, .ref x), (2, .ref ar), (3, .int (nI L.length))] rfl (Nat.le_of_ble_eq_true rfl) ?_
  intro zp ze zs zm zargs zbelow zmeth zc C hr hin Q hQ
  obtain ⟨hl10, ⟨mo, hA⟩, hx⟩ := id hs
  rcases hx with ⟨rfl, rfl⟩ | ⟨f, hB, hf⟩
  · refine v_lvp [0, 1, 2, 3] rfl ?_
    refine v_iload_n C 3 rfl dJx4a65c_add_72be8_0 rfl ?_
    refine v_aload_n C 2 rfl dJx4a65c_add_72be8_1 rfl ?_
    refine v_tlen (v := 0) C C.2.2.2.2.2.2.1.1.2.2.1 rfl dJx4a65c_add_72be8_2 ?_
    refine v_icmp_ne (tgt := 11) C dJx4a65c_add_72be8_3 (by decide) (fun c1 => absurd c1 (by decide)) (fun c1 => ?_)
    refine v_aload_n C 0 rfl dJx4a65c_add_72be8_6 rfl ?_
    refine v_callV (rest := []) C (c_Jx4a65c_grow_d5877 l hl G a mo h hA) K_Jx4a65c_129 hA rfl rfl (Nat.le_of_ble_eq_true rfl) ⟨Nat.le_of_ble_eq_true rfl, Nat.le_of_ble_eq_true rfl⟩ ⟨Nat.le_of_ble_eq_true rfl, Nat.le_of_ble_eq_true rfl⟩ dJx4a65c_add_72be8_7 (fun q2 h2 w2 => ?_)
    obtain ⟨nq2, ca2, cq2, kp2⟩ := w2
    refine v_astore_n C [(2, .ref q2), (0, .ref a), (1, .ref x), (3, .int 0)] rfl (by decide) dJx4a65c_add_72be8_10 rfl ?_
    refine v_aload_n C 0 rfl dJx4a65c_add_72be8_11 rfl ?_
    refine v_iload_n C 3 rfl dJx4a65c_add_72be8_12 rfl ?_
    refine v_aload_n C 2 rfl dJx4a65c_add_72be8_13 rfl ?_
    obtain ⟨rr, ro, rc⟩ := id hco
    refine v_aast C 5 rfl cq2 (kp2 _ _ (zne_oo hA hX (hc2)) hX) ro rc (show vp_in 0 10 from vpin (n := 0) (by decide) (by decide)) dJx4a65c_add_72be8_14 (v_nw (fun h3 eh3 => ?_))
    have k4 : h3 a = some (.inr (2, [.int mo, .ref q2, .int 0])) := by rw [eh3, zup_ne _ _ (zne_qo cq2 ca2)]; exact ca2
    have k5 : h3 q2 = some (.inl (gc G 5, 10, .inr (.inr (.inr (.inr (va_up (fun _ => none) (0 : Int32).toNatClampNeg (some x))))))) := by rw [eh3]; exact zup_self _ _ _
    refine v_aload_n C 1 rfl dJx4a65c_add_72be8_15 rfl ?_
    refine v_iload_n C 3 rfl dJx4a65c_add_72be8_16 rfl ?_
    refine v_iconst (v := 1) C dJx4a65c_add_72be8_17 (by decide) ?_
    refine v_iadd C dJx4a65c_add_72be8_18 (v_eqi (y := 1) (by decide) ?_)
    refine v_put C [.int mo, .ref q2, .int 1] P_Jx4a65c_48 k4 rfl rfl rfl (Nat.le_of_ble_eq_true rfl) dJx4a65c_add_72be8_19 (v_nw (fun h7 eh7 => ?_))
    have k8 : h7 q2 = some (.inl (gc G 5, 10, .inr (.inr (.inr (.inr (va_up (fun _ => none) (0 : Int32).toNatClampNeg (some x))))))) := by rw [eh7, zup_ne _ _ (zne_oq k4 k5)]; exact k5
    have k9 : h7 a = some (.inr (2, [.int mo, .ref q2, .int 1])) := by rw [eh7]; exact zup_self _ _ _
    exact v_vret C hQ hr (Nat.le_of_ble_eq_true rfl) (Nat.le_of_ble_eq_true rfl) dJx4a65c_add_72be8_22 ⟨q2, ⟨by show 1 ≤ 10; decide, ⟨_, k9⟩, Or.inr ⟨_, k8, fun j hj => by
        have : j = 0 := by simpa using hj
        subst this; exact vu_s⟩⟩, (zSt.put (zSt.put (zSt.trans zSt.rf ⟨zk_weak kp2 (fun b e _ hb q => hb (Or.inl q)), Or.inr nq2⟩ hA) eh3 (Or.inr rfl)) eh7 (Or.inl rfl))⟩
  · refine v_iload_n C 3 rfl dJx4a65c_add_72be8_0 rfl ?_
    refine v_aload_n C 2 rfl dJx4a65c_add_72be8_1 rfl ?_
    refine v_alen (v := nI 10) C 5 rfl hB rfl dJx4a65c_add_72be8_2 ?_
    refine v_icmp_ne (tgt := 11) C dJx4a65c_add_72be8_3 (by decide) (fun c10 => ?_) (fun c10 => absurd ((nk_ne (a := L.length) (y := nI 10) 10 rfl (by omega) (by decide)).mpr (by omega)) (fun z => z c10))
    have c10 := (nk_ne (a := L.length) 10 (by decide) (by omega) (by decide)).mp c10
    refine v_aload_n C 2 rfl dJx4a65c_add_72be8_11 rfl ?_
    refine v_iload_n C 3 rfl dJx4a65c_add_72be8_12 rfl ?_
    refine v_aload_n C 1 rfl dJx4a65c_add_72be8_13 rfl ?_
    obtain ⟨rr, ro, rc⟩ := id hco
    refine v_aast C 5 rfl hB hX ro rc (vpin (by omega) (by decide)) dJx4a65c_add_72be8_14 (v_nw (fun h11 eh11 => ?_))
    have k12 : h11 a = some (.inr (2, [.int mo, .ref ar, .int (nI L.length)])) := by rw [eh11, zup_ne _ _ (zne_qo hB hA)]; exact hA
    have k13 : h11 ar = some (.inl (gc G 5, 10, .inr (.inr (.inr (.inr (va_up f ((nI L.length) : Int32).toNatClampNeg (some x))))))) := by rw [eh11]; exact zup_self _ _ _
    refine v_aload_n C 0 rfl dJx4a65c_add_72be8_15 rfl ?_
    refine v_iload_n C 3 rfl dJx4a65c_add_72be8_16 rfl ?_
    refine v_iconst (v := 1) C dJx4a65c_add_72be8_17 (by decide) ?_
    refine v_iadd C dJx4a65c_add_72be8_18 (v_eqi (nI_adk L.length 1 (by decide)) ?_)
    refine v_put C [.int mo, .ref ar, .int (nI (L.length + 1))] P_Jx4a65c_48 k12 rfl rfl rfl (Nat.le_of_ble_eq_true rfl) dJx4a65c_add_72be8_19 (v_nw (fun h15 eh15 => ?_))
    have k16 : h15 ar = some (.inl (gc G 5, 10, .inr (.inr (.inr (.inr (va_up f ((nI L.length) : Int32).toNatClampNeg (some x))))))) := by rw [eh15, zup_ne _ _ (zne_oq k12 k13)]; exact k13
    have k17 : h15 a = some (.inr (2, [.int mo, .ref ar, .int (nI (L.length + 1))])) := by rw [eh15]; exact zup_self _ _ _
    exact v_vret C hQ hr (Nat.le_of_ble_eq_true rfl) (Nat.le_of_ble_eq_true rfl) dJx4a65c_add_72be8_22 ⟨ar, ⟨by rw [List.length_append]; show _ + 1 ≤ _; omega, ⟨_, by rw [List.length_append]; exact k17⟩, Or.inr ⟨_, k16, fun j hj => al_snoc hf (by omega) hj⟩⟩, (zSt.put (zSt.put zSt.rf eh11 (Or.inr rfl)) eh15 (Or.inl rfl))⟩
set_option maxHeartbeats 4000000 in
set_option maxRecDepth 100000 in
theorem c_Jx4a65c_add_9ea2d (l : Launch) (hl : l.stackTraces = false) (G : zG) (a ar : Nat) (L : List Nat) (x ci : Nat) (vs : List Value) (h : zH) (hs : zAL G h a ar L) (hn : L.length < 10) (hX : h x = some (.inr (ci, vs))) (hc2 : 2 ≠ ci) (hco : zOb ci) : zMet eI l yJx4a65c_add_9ea2d cJx4a65c_add_9ea2d 2 (some .boolean) 15 1 10 G [.ref a, .ref x] h (fun r h2 => r = 1 ∧ ∃ ar2, zAL G h2 a ar2 (L ++ [x]) ∧ zSt h h2 a ar ar2) := by
  refine con_of hl RJx4a65c rfl (by decide +kernel) [(0, .ref a), (1, .ref x)] rfl (Nat.le_of_ble_eq_true rfl) ?_
  intro zp ze zs zm zargs zbelow zmeth zc C hr hin Q hQ
  obtain ⟨hl10, ⟨mo, hA⟩, hx⟩ := id hs
  refine v_aload_n C 0 rfl dJx4a65c_add_9ea2d_0 rfl ?_
  refine v_dup C dJx4a65c_add_9ea2d_1 rfl ?_
  refine v_get (v := .int mo) C F_Jx4a65c_63 hA rfl dJx4a65c_add_9ea2d_2 ?_
  refine v_iconst (v := 1) C dJx4a65c_add_9ea2d_5 (by decide) ?_
  refine v_iadd C dJx4a65c_add_9ea2d_6 (v_topi (fun i1 e1 => ?_))
  refine v_put C [.int i1, .ref ar, .int (nI L.length)] P_Jx4a65c_63 hA rfl rfl rfl (Nat.le_of_ble_eq_true rfl) dJx4a65c_add_9ea2d_7 (v_nw (fun h2 eh2 => ?_))
  have k3 : h2 a = some (.inr (2, [.int i1, .ref ar, .int (nI L.length)])) := by rw [eh2]; exact zup_self _ _ _
  have hx4 : (L = [] ∧ ar = gs G 0) ∨ ∃ f : Nat → Option Nat, h2 ar = some (.inl (gc G 5, 10, .inr (.inr (.inr (.inr f))))) ∧ ∀ j, j < L.length → f j = some (L.getD j 0) := by
      rcases hx with hx | ⟨f, hB, hf⟩
      · exact Or.inl hx
      · exact Or.inr ⟨f, by rw [eh2, zup_ne _ _ (zne_oq hA hB)]; exact hB, hf⟩
  have hX4 : h2 x = some (.inr (ci, vs)) := by rw [eh2, zup_ne _ _ (zne_oo hA hX hc2)]; exact hX
  refine v_aload_n C 0 rfl dJx4a65c_add_9ea2d_10 rfl ?_
  refine v_aload_n C 1 rfl dJx4a65c_add_9ea2d_11 rfl ?_
  refine v_aload_n C 0 rfl dJx4a65c_add_9ea2d_12 rfl ?_
  refine v_get (v := .ref ar) C F_Jx4a65c_9 k3 rfl dJx4a65c_add_9ea2d_13 ?_
  refine v_aload_n C 0 rfl dJx4a65c_add_9ea2d_16 rfl ?_
  refine v_get (v := .int (nI L.length)) C F_Jx4a65c_48 k3 rfl dJx4a65c_add_9ea2d_17 ?_
  have hs5 : zAL G h2 a ar L := ⟨hl10, ⟨_, k3⟩, hx4⟩
  refine v_callV (rest := []) C (c_Jx4a65c_add_72be8 l hl G a ar L x ci vs h2 hs5 hn hX4 hc2 hco) K_Jx4a65c_131 k3 rfl rfl (Nat.le_of_ble_eq_true rfl) ⟨Nat.le_of_ble_eq_true rfl, Nat.le_of_ble_eq_true rfl⟩ ⟨Nat.le_of_ble_eq_true rfl, Nat.le_of_ble_eq_true rfl⟩ dJx4a65c_add_9ea2d_20 (fun _ h5 w5 => ?_)
  obtain ⟨ar5, al5, zs5⟩ := w5
  refine v_iconst (v := 1) C dJx4a65c_add_9ea2d_23 (by decide) ?_
  exact v_iret C hQ hr rfl (Nat.le_of_ble_eq_true rfl) (Nat.le_of_ble_eq_true rfl) dJx4a65c_add_9ea2d_24 ⟨rfl, ar5, al5, (zSt.trans (zSt.put zSt.rf eh2 (Or.inl rfl)) zs5 k3)⟩
theorem sb_m1w {p : Nat} (h : 0 < p) : nI p - 1 = nI (p - 1) := by
  have e : nI p - nI 1 = nI (p - 1) := pk_sub (by omega)
  exact e
theorem al_drop {L : List Nat} {f : Nat → Option Nat} (hf : ∀ j, j < L.length → f j = some (L.getD j 0)) (hl : L.length < 2 ^ 31) {j : Nat} (hj : j < L.dropLast.length) : va_up f (nI (L.length - 1)).toNatClampNeg none j = some (L.dropLast.getD j 0) := by
  rw [nI_clamp (by omega)]
  rw [List.length_dropLast] at hj
  rw [vu_n (by omega), hf j (by omega), drop_get hj]
set_option maxHeartbeats 4000000 in
set_option maxRecDepth 100000 in
theorem c_Jx4a65c_fastRemove_b59b0 (l : Launch) (hl : l.stackTraces = false) (G : zG) (a ar : Nat) (L : List Nat) (h : zH) (hs : zAL G h a ar L) (hj : 0 < L.length) : zMet eV l yJx4a65c_fastRemove_b59b0 cJx4a65c_fastRemove_b59b0 4 none 12 0 0 G [.ref a, .ref ar, .int (nI (L.length - 1))] h (fun _ h2 => ∃ ar2, zAL G h2 a ar2 L.dropLast ∧ zSt h h2 a ar ar2 ∧ ar2 = ar) := by
  refine con_of hl RJx4a65c rfl (by decide +kernel) [(0, .ref a), (1, .ref ar), (2, .int (nI (L.length - 1)))] rfl (Nat.le_of_ble_eq_true rfl) ?_
  intro zp ze zs zm zargs zbelow zmeth zc C hr hin Q hQ
  obtain ⟨hl10, ⟨mo, hA⟩, hx⟩ := id hs
  obtain ⟨f, hB, hf⟩ : ∃ f : Nat → Option Nat, h ar = some (.inl (gc G 5, 10, .inr (.inr (.inr (.inr f))))) ∧ ∀ j, j < L.length → f j = some (L.getD j 0) := by
    rcases hx with ⟨rfl, -⟩ | hx
    · exact absurd hj (by simp)
    · exact hx
  refine v_aload_n C 0 rfl dJx4a65c_fastRemove_b59b0_0 rfl ?_
  refine v_dup C dJx4a65c_fastRemove_b59b0_1 rfl ?_
  refine v_get (v := .int mo) C F_Jx4a65c_63 hA rfl dJx4a65c_fastRemove_b59b0_2 ?_
  refine v_iconst (v := 1) C dJx4a65c_fastRemove_b59b0_5 (by decide) ?_
  refine v_iadd C dJx4a65c_fastRemove_b59b0_6 (v_topi (fun i1 e1 => ?_))
  refine v_put C [.int i1, .ref ar, .int (nI L.length)] P_Jx4a65c_63 hA rfl rfl rfl (Nat.le_of_ble_eq_true rfl) dJx4a65c_fastRemove_b59b0_7 (v_nw (fun h2 eh2 => ?_))
  have k3 : h2 ar = some (.inl (gc G 5, 10, .inr (.inr (.inr (.inr f))))) := by rw [eh2, zup_ne _ _ (zne_oq hA hB)]; exact hB
  have k4 : h2 a = some (.inr (2, [.int i1, .ref ar, .int (nI L.length)])) := by rw [eh2]; exact zup_self _ _ _
  refine v_aload_n C 0 rfl dJx4a65c_fastRemove_b59b0_10 rfl ?_
  refine v_get (v := .int (nI L.length)) C F_Jx4a65c_48 k4 rfl dJx4a65c_fastRemove_b59b0_11 ?_
  refine v_iconst (v := 1) C dJx4a65c_fastRemove_b59b0_14 (by decide) ?_
  refine v_isub C dJx4a65c_fastRemove_b59b0_15 (v_eqi (y := (nI (L.length - 1))) (sb_m1w (by omega)) ?_)
  refine v_dup C dJx4a65c_fastRemove_b59b0_16 rfl ?_
  refine v_istore_n C [(3, .int (nI (L.length - 1))), (0, .ref a), (1, .ref ar), (2, .int (nI (L.length - 1)))] rfl (by decide) dJx4a65c_fastRemove_b59b0_17 rfl ?_
  refine v_iload_n C 3 rfl dJx4a65c_fastRemove_b59b0_18 rfl ?_
  refine v_icmp_le (tgt := 34) C dJx4a65c_fastRemove_b59b0_19 (by decide) (fun c6 => ?_) (fun c6 => absurd ((nn_le (a := L.length - 1) (b := L.length - 1) (by omega) (by omega)).mpr (Nat.le_refl _)) c6)
  have c6 := (nn_le (a := (L.length - 1)) (b := (L.length - 1)) (by omega) (by omega)).mp c6
  refine v_aload_n C 2 rfl dJx4a65c_fastRemove_b59b0_34 rfl ?_
  refine v_aload_n C 1 rfl dJx4a65c_fastRemove_b59b0_35 rfl ?_
  refine v_iload_n C 0 rfl dJx4a65c_fastRemove_b59b0_36 rfl ?_
  refine v_dup_x1 C dJx4a65c_fastRemove_b59b0_37 rfl rfl ?_
  refine v_put C [.int i1, .ref ar, .int (nI (L.length - 1))] P_Jx4a65c_48 k4 rfl rfl rfl (Nat.le_of_ble_eq_true rfl) dJx4a65c_fastRemove_b59b0_38 (v_nw (fun h7 eh7 => ?_))
  have k8 : h7 ar = some (.inl (gc G 5, 10, .inr (.inr (.inr (.inr f))))) := by rw [eh7, zup_ne _ _ (zne_oq k4 k3)]; exact k3
  have k9 : h7 a = some (.inr (2, [.int i1, .ref ar, .int (nI (L.length - 1))])) := by rw [eh7]; exact zup_self _ _ _
  refine v_null C dJx4a65c_fastRemove_b59b0_41 ?_
  refine v_aastN C 5 rfl k8 (vpin (by omega) (by decide)) dJx4a65c_fastRemove_b59b0_42 (v_nw (fun h10 eh10 => ?_))
  have k11 : h10 a = some (.inr (2, [.int i1, .ref ar, .int (nI (L.length - 1))])) := by rw [eh10, zup_ne _ _ (zne_qo k8 k9)]; exact k9
  have k12 : h10 ar = some (.inl (gc G 5, 10, .inr (.inr (.inr (.inr (va_up f ((nI (L.length - 1)) : Int32).toNatClampNeg none)))))) := by rw [eh10]; exact zup_self _ _ _
  exact v_vret C hQ hr (Nat.le_of_ble_eq_true rfl) (Nat.le_of_ble_eq_true rfl) dJx4a65c_fastRemove_b59b0_43 ⟨ar, ⟨by rw [List.length_dropLast]; omega, ⟨_, by rw [List.length_dropLast]; exact k11⟩, Or.inr ⟨_, k12, fun j hj2 => al_drop hf (by omega) hj2⟩⟩, (zSt.put (zSt.put (zSt.put zSt.rf eh2 (Or.inl rfl)) eh7 (Or.inl rfl)) eh10 (Or.inr rfl)), rfl⟩
set_option maxHeartbeats 4000000 in
set_option maxRecDepth 100000 in
theorem c_Jx4a65c_remove_915e3 (l : Launch) (hl : l.stackTraces = false) (G : zG) (a ar : Nat) (L : List Nat) (h : zH) (hs : zAL G h a ar L) (hj : 0 < L.length) : zMet eR l yJx4a65c_remove_915e3 cJx4a65c_remove_915e3 4 (some (.object "java/lang/Object")) 14 0 0 G [.ref a, .int (nI (L.length - 1))] h (fun r h2 => r = L.getD (L.length - 1) 0 ∧ ∃ ar2, zAL G h2 a ar2 L.dropLast ∧ zSt h h2 a ar ar2 ∧ ar2 = ar) := by
  refine con_of hl RJx4a65c rfl (by decide +kernel) [(0, .ref a), (1, .int (nI (L.length - 1)))] rfl (Nat.le_of_ble_eq_true rfl) ?_
  intro zp ze zs zm zargs zbelow zmeth zc C hr hin Q hQ
  obtain ⟨hl10, ⟨mo, hA⟩, hx⟩ := id hs
  obtain ⟨f, hB, hf⟩ : ∃ f : Nat → Option Nat, h ar = some (.inl (gc G 5, 10, .inr (.inr (.inr (.inr f))))) ∧ ∀ j, j < L.length → f j = some (L.getD j 0) := by
    rcases hx with ⟨rfl, -⟩ | hx
    · exact absurd hj (by simp)
    · exact hx
  refine v_iload_n C 1 rfl dJx4a65c_remove_915e3_0 rfl ?_
  refine v_aload_n C 0 rfl dJx4a65c_remove_915e3_1 rfl ?_
  refine v_get (v := .int (nI L.length)) C F_Jx4a65c_48 hA rfl dJx4a65c_remove_915e3_2 ?_
  refine v_callS (rest := []) C (c_J15_checkIndex_7cf53 l hl G (L.length - 1) L.length h (by omega) (by omega)) S_Jx4a65c_118 rfl rfl (Nat.le_of_ble_eq_true rfl) ⟨Nat.le_of_ble_eq_true rfl, Nat.le_of_ble_eq_true rfl⟩ ⟨Nat.le_of_ble_eq_true rfl, Nat.le_of_ble_eq_true rfl⟩ dJx4a65c_remove_915e3_5 (fun i1 h1 q1 => ?_)
  obtain ⟨e1, rfl⟩ := q1; subst e1
  refine v_pop C dJx4a65c_remove_915e3_8 rfl ?_
  refine v_aload_n C 0 rfl dJx4a65c_remove_915e3_9 rfl ?_
  refine v_get (v := .ref ar) C F_Jx4a65c_9 hA rfl dJx4a65c_remove_915e3_10 ?_
  refine v_astore_n C [(2, .ref ar), (0, .ref a), (1, .int (nI (L.length - 1)))] rfl (by decide) dJx4a65c_remove_915e3_13 rfl ?_
  refine v_aload_n C 0 rfl dJx4a65c_remove_915e3_14 rfl ?_
  refine v_iload_n C 2 rfl dJx4a65c_remove_915e3_15 rfl ?_
  refine v_aald C 5 rfl rfl hB (vpin (by omega) (by decide)) dJx4a65c_remove_915e3_16 ?_
  rw [nI_clamp (show L.length - 1 < 2 ^ 31 by omega), hf (L.length - 1) (by omega)]
  refine v_astore_n C [(3, .ref (L.getD (L.length - 1) 0)), (2, .ref ar), (0, .ref a), (1, .int (nI (L.length - 1)))] rfl (by decide) dJx4a65c_remove_915e3_17 rfl ?_
  refine v_aload_n C 2 rfl dJx4a65c_remove_915e3_18 rfl ?_
  refine v_aload_n C 1 rfl dJx4a65c_remove_915e3_19 rfl ?_
  refine v_iload_n C 3 rfl dJx4a65c_remove_915e3_20 rfl ?_
  refine v_callV (rest := []) C (c_Jx4a65c_fastRemove_b59b0 l hl G a ar L h hs hj) K_Jx4a65c_144 hA rfl rfl (Nat.le_of_ble_eq_true rfl) ⟨Nat.le_of_ble_eq_true rfl, Nat.le_of_ble_eq_true rfl⟩ ⟨Nat.le_of_ble_eq_true rfl, Nat.le_of_ble_eq_true rfl⟩ dJx4a65c_remove_915e3_21 (fun _ h2 w2 => ?_)
  refine v_aload_n C 0 rfl dJx4a65c_remove_915e3_24 rfl ?_
  exact v_aret C hQ hr (Or.inl ⟨_, rfl⟩) (Nat.le_of_ble_eq_true rfl) (Nat.le_of_ble_eq_true rfl) dJx4a65c_remove_915e3_25 ⟨rfl, w2⟩

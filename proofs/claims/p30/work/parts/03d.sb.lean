theorem i2b_asc {c : Nat} (h : c < 128) : (nI c).toInt8.toInt32 = nI c := by
  have k : ∀ c, c < 128 → (nI c).toInt8.toInt32 = nI c := by decide +kernel
  exact k c h
def dgl (v : Nat) : List Nat := (List.range (sb_dg v)).map (sb_dec v)
theorem dgl_len (v : Nat) : (dgl v).length = sb_dg v := by simp [dgl]
theorem dgl_get {v j : Nat} (h : j < sb_dg v) : (dgl v).getD j 0 = sb_dec v j := by
  rw [List.getD_eq_getElem?_getD, List.getElem?_eq_getElem (by rw [dgl_len]; exact h)]
  simp [dgl]
theorem dgl_asc (v : Nat) : asc (dgl v) := fun c hc => by
  obtain ⟨i, -, rfl⟩ := List.mem_map.mp hc
  unfold sb_dec
  have := Nat.mod_lt (v / 10 ^ (sb_dg v - 1 - i)) (show 0 < 10 by decide)
  omega
theorem cpy_lo {f g : Nat → Int32} {sp dp n : Int32} {p m j : Nat} (hd : dp = nI p) (hp : p < 2 ^ 31) (h : j < p) : va_cpy f g sp.toNatClampNeg dp.toNatClampNeg n.toNatClampNeg j = g j := pk_cpy_out (Or.inl (by rw [hd, nI_clamp hp]; exact h))
theorem cpy_hi {f g : Nat → Int32} {p m j : Nat} (hp : p < 2 ^ 31) (hm : m < 2 ^ 31) (h : j < m) : va_cpy f g (0 : Int32).toNatClampNeg (nI p).toNatClampNeg (nI m).toNatClampNeg (p + j) = f j := by
  rw [nI_clamp hp, nI_clamp hm, tc0, pk_cpy_in (by omega) (by omega)]; congr 1; omega
set_option maxHeartbeats 4000000 in
set_option maxRecDepth 100000 in
theorem c_J0_getBytes_840e7 (l : Launch) (hl : l.stackTraces = false) (G : zG) (ar cap p : Nat) (f : Nat → Int32) (a b : Nat) (g : Nat → Int32) (s : List Nat) (h : zH) (ht : zTt G h a b g s) (hA : h ar = some (.inl (gc G 2, cap, .inl f))) (hp : p + s.length ≤ cap) (hc : cap ≤ 1000) : zMet eV l yJ0_getBytes_840e7 cJ0_getBytes_840e7 4 none 13 0 0 G [.ref a, .ref ar, .int (nI p), .int 0] h (fun _ h2 => ∃ f2, h2 = zup h ar (.inl (gc G 2, cap, .inl f2)) ∧ (∀ j, j < p → f2 j = f j) ∧ (∀ j, j < s.length → f2 (p + j) = nI (s.getD j 0)) ∧ (sb_Fit f → sb_Fit f2)) := by
  refine con_of hl RJ0 rfl (by decide +kernel) [(0, .ref a), (1, .ref ar), (2, .int (nI p)), (3, .int 0)] rfl (Nat.le_of_ble_eq_true rfl) ?_
  intro zp ze zs zm zargs zbelow zmeth zc C hr hin Q hQ
  refine v_aload_n C 0 rfl dJ0_getBytes_840e7_0 rfl ?_
  refine v_callT (rest := []) C (c_J0_coder_7d493 l hl G a b s.length g h ht.1) K_J0_335 ht.1 rfl rfl (Nat.le_of_ble_eq_true rfl) ⟨Nat.le_of_ble_eq_true rfl, Nat.le_of_ble_eq_true rfl⟩ ⟨Nat.le_of_ble_eq_true rfl, Nat.le_of_ble_eq_true rfl⟩ dJ0_getBytes_840e7_1 (fun i1 h1 q1 => ?_)
  obtain ⟨e1, rfl⟩ := q1; subst e1
  refine v_iload_n C 3 rfl dJ0_getBytes_840e7_4 rfl ?_
  refine v_icmp_ne (tgt := 28) C dJ0_getBytes_840e7_5 (by decide) (fun c2 => absurd c2 (by decide)) (fun c2 => ?_)
  refine v_aload_n C 0 rfl dJ0_getBytes_840e7_8 rfl ?_
  refine v_getSV C ht.1 F_J0_9 G_J0_9w dJ0_getBytes_840e7_9 ?_
  refine v_iconst (v := 0) C dJ0_getBytes_840e7_12 (by decide) ?_
  refine v_aload_n C 1 rfl dJ0_getBytes_840e7_13 rfl ?_
  refine v_iload_n C 2 rfl dJ0_getBytes_840e7_14 rfl ?_
  refine v_iload_n C 3 rfl dJ0_getBytes_840e7_15 rfl ?_
  refine v_ishl C dJ0_getBytes_840e7_16 (v_eqi (i_shl0 p) ?_)
  refine v_aload_n C 0 rfl dJ0_getBytes_840e7_17 rfl ?_
  refine v_getSV C ht.1 F_J0_9 G_J0_9w dJ0_getBytes_840e7_18 ?_
  refine v_alenT C (zTx.tb ht.1) dJ0_getBytes_840e7_21 ?_
  refine v_copyT C AC_J0_212 (zTx.tb ht.1) hA (by decide) (nI_pos (by omega)) (nI_pos (by omega)) (by rw [nI_clamp (by omega), tc0]; omega) (by rw [nI_clamp (by omega), nI_clamp (by omega)]; omega) (fun _ _ => ht.2.2.2 _) (Nat.le_of_ble_eq_true rfl) (Nat.le_of_ble_eq_true rfl) dJ0_getBytes_840e7_22 (v_nw (fun h4 eh4 => ?_))
  have k5 : h4 ar = some (.inl (gc G 2, cap, .inl (va_cpy g f (0 : Int32).toNatClampNeg ((nI p) : Int32).toNatClampNeg ((nI s.length) : Int32).toNatClampNeg))) := by rw [eh4]; exact zup_self _ _ _
  refine v_goto (tgt := 43) C dJ0_getBytes_840e7_25 (by decide) ?_
  exact v_vret C hQ hr (Nat.le_of_ble_eq_true rfl) (Nat.le_of_ble_eq_true rfl) dJ0_getBytes_840e7_43 ⟨_, eh4, fun j hj => cpy_lo (m := 0) rfl (by omega) hj, fun j hj => by rw [cpy_hi (by omega) (by omega) hj, ht.2.1 j hj], fun q => sb_fitC ht.2.2.2 q⟩
set_option maxHeartbeats 4000000 in
set_option maxRecDepth 100000 in
theorem c_J5_init_d00df (l : Launch) (hl : l.stackTraces = false) (G : zG) (sb : Nat) (h : zH) (h0 : h sb = some (.inr (1, [.null, .int 0, .int 0, .int 0]))) : zMet eV l yJ5_init_d00df cJ5_init_d00df 2 none 12 1 16 G [.ref sb, .int 16] h (fun _ h2 => ∃ ar, zSB G h2 sb ar 16 (fun _ => 0) [] ∧ h ar = none ∧ zKp (fun b => b = sb) h h2) := by
  refine con_of hl RJ5 rfl (by decide +kernel) [(0, .ref sb), (1, .int 16)] rfl (Nat.le_of_ble_eq_true rfl) ?_
  intro zp ze zs zm zargs zbelow zmeth zc C hr hin Q hQ
  refine v_aload_n C 0 rfl dJ5_init_d00df_0 rfl ?_
  refine v_objInit C O_J5_3 (Nat.le_of_ble_eq_true rfl) (Nat.le_of_ble_eq_true rfl) dJ5_init_d00df_1 ?_
  refine v_gets C C.2.2.2.2.2.2.1.1.1 G_J5_18 dJ5_init_d00df_4 ?_
  refine v_if_eq (tgt := 25) C dJ5_init_d00df_7 (by decide) (fun c1 => absurd c1 (by decide)) (fun c1 => ?_)
  refine v_aload_n C 0 rfl dJ5_init_d00df_10 rfl ?_
  refine v_iload_n C 1 rfl dJ5_init_d00df_11 rfl ?_
  refine v_newa (atype := .byte) (N := 16) (z := (16, .inl (fun _ => 0))) C 2 rfl rfl rfl AY_byte (fun cA => rfl) (by decide) (by decide) (by decide) (Nat.le_of_ble_eq_true rfl) (Nat.le_of_ble_eq_true rfl) dJ5_init_d00df_12 (fun q2 gq2 nq2 => v_nw (fun h2 eh2 => ?_))
  have k3 : h2 sb = some (.inr (1, [.null, .int 0, .int 0, .int 0])) := by rw [eh2, zup_ne _ _ (zne_new nq2 h0)]; exact h0
  have k4 : h2 q2 = some (.inl (gc G 2, 16, .inl (fun _ => 0))) := by rw [eh2]; exact zup_self _ _ _
  refine v_put C [.ref q2, .int 0, .int 0, .int 0] P_J5_15 k3 rfl rfl rfl (Nat.le_of_ble_eq_true rfl) dJ5_init_d00df_14 (v_nw (fun h5 eh5 => ?_))
  have k6 : h5 q2 = some (.inl (gc G 2, 16, .inl (fun _ => 0))) := by rw [eh5, zup_ne _ _ (Ne.symm (zne_new nq2 h0))]; exact k4
  have k7 : h5 sb = some (.inr (1, [.ref q2, .int 0, .int 0, .int 0])) := by rw [eh5]; exact zup_self _ _ _
  refine v_aload_n C 0 rfl dJ5_init_d00df_17 rfl ?_
  refine v_iconst (v := 0) C dJ5_init_d00df_18 (by decide) ?_
  refine v_put C [.ref q2, .int 0, .int 0, .int 0] P_J5_22 k7 rfl rfl rfl (Nat.le_of_ble_eq_true rfl) dJ5_init_d00df_19 (v_nw (fun h8 eh8 => ?_))
  have k9 : h8 q2 = some (.inl (gc G 2, 16, .inl (fun _ => 0))) := by rw [eh8, zup_ne _ _ (Ne.symm (zne_new nq2 h0))]; exact k6
  have k10 : h8 sb = some (.inr (1, [.ref q2, .int 0, .int 0, .int 0])) := by rw [eh8]; exact zup_self _ _ _
  refine v_goto (tgt := 38) C dJ5_init_d00df_22 (by decide) ?_
  exact v_vret C hQ hr (Nat.le_of_ble_eq_true rfl) (Nat.le_of_ble_eq_true rfl) dJ5_init_d00df_38 ⟨q2, ⟨k10, k9, (by decide), (by decide), (fun j hj => absurd hj (by simp)), sb_fit0⟩, nq2, (zk_put (zk_put (zk_new (zk_rf _ _) eh2 nq2) eh5 rfl) eh8 rfl)⟩
set_option maxHeartbeats 4000000 in
set_option maxRecDepth 100000 in
theorem c_J5_length_8abf5 (l : Launch) (hl : l.stackTraces = false) (G : zG) (sb ar cap : Nat) (f : Nat → Int32) (t : List Nat) (h : zH) (hs : zSB G h sb ar cap f t) : zMet eI l yJ5_length_8abf5 cJ5_length_8abf5 1 (some .int) 12 0 0 G [.ref sb] h (fun r h2 => r = nI t.length ∧ h = h2) := by
  refine con_of hl RJ5 rfl (by decide +kernel) [(0, .ref sb)] rfl (Nat.le_of_ble_eq_true rfl) ?_
  intro zp ze zs zm zargs zbelow zmeth zc C hr hin Q hQ
  refine v_aload_n C 0 rfl dJ5_length_8abf5_0 rfl ?_
  refine v_get (v := .int (nI t.length)) C F_J5_79 hs.1 rfl dJ5_length_8abf5_1 ?_
  exact v_iret C hQ hr rfl (Nat.le_of_ble_eq_true rfl) (Nat.le_of_ble_eq_true rfl) dJ5_length_8abf5_4 ⟨rfl, rfl⟩
set_option maxHeartbeats 4000000 in
set_option maxRecDepth 100000 in
theorem c_J5_isLatin1_aae02 (l : Launch) (hl : l.stackTraces = false) (G : zG) (sb ar cap : Nat) (f : Nat → Int32) (t : List Nat) (h : zH) (hs : zSB G h sb ar cap f t) : zMet eI l yJ5_isLatin1_aae02 cJ5_isLatin1_aae02 1 (some .boolean) 12 0 0 G [.ref sb] h (fun r h2 => r = 1 ∧ h = h2) := by
  refine con_of hl RJ5 rfl (by decide +kernel) [(0, .ref sb)] rfl (Nat.le_of_ble_eq_true rfl) ?_
  intro zp ze zs zm zargs zbelow zmeth zc C hr hin Q hQ
  refine v_gets C C.2.2.2.2.2.2.1.1.1 G_J5_18 dJ5_isLatin1_aae02_0 ?_
  refine v_if_eq (tgt := 17) C dJ5_isLatin1_aae02_3 (by decide) (fun c1 => absurd c1 (by decide)) (fun c1 => ?_)
  refine v_aload_n C 0 rfl dJ5_isLatin1_aae02_6 rfl ?_
  refine v_get (v := .int 0) C F_J5_22 hs.1 rfl dJ5_isLatin1_aae02_7 ?_
  refine v_if_ne (tgt := 17) C dJ5_isLatin1_aae02_10 (by decide) (fun c2 => absurd c2 (by decide)) (fun c2 => ?_)
  refine v_iconst (v := 1) C dJ5_isLatin1_aae02_13 (by decide) ?_
  refine v_goto (tgt := 18) C dJ5_isLatin1_aae02_14 (by decide) ?_
  exact v_iret C hQ hr rfl (Nat.le_of_ble_eq_true rfl) (Nat.le_of_ble_eq_true rfl) dJ5_isLatin1_aae02_18 ⟨rfl, rfl⟩
set_option maxHeartbeats 4000000 in
set_option maxRecDepth 100000 in
theorem c_J5_getValue_6d5f1 (l : Launch) (hl : l.stackTraces = false) (G : zG) (sb ar cap : Nat) (f : Nat → Int32) (t : List Nat) (h : zH) (hs : zSB G h sb ar cap f t) : zMet eR l yJ5_getValue_6d5f1 cJ5_getValue_6d5f1 1 (some (.array .byte)) 12 0 0 G [.ref sb] h (fun r h2 => r = ar ∧ h = h2) := by
  refine con_of hl RJ5 rfl (by decide +kernel) [(0, .ref sb)] rfl (Nat.le_of_ble_eq_true rfl) ?_
  intro zp ze zs zm zargs zbelow zmeth zc C hr hin Q hQ
  refine v_aload_n C 0 rfl dJ5_getValue_6d5f1_0 rfl ?_
  refine v_get (v := .ref ar) C F_J5_15 hs.1 rfl dJ5_getValue_6d5f1_1 ?_
  exact v_aret C hQ hr (Or.inr ⟨_, rfl⟩) (Nat.le_of_ble_eq_true rfl) (Nat.le_of_ble_eq_true rfl) dJ5_getValue_6d5f1_4 ⟨rfl, rfl⟩
set_option maxHeartbeats 4000000 in
set_option maxRecDepth 100000 in
theorem c_J4_length_8abf5 (l : Launch) (hl : l.stackTraces = false) (G : zG) (sb ar cap : Nat) (f : Nat → Int32) (t : List Nat) (h : zH) (hs : zSB G h sb ar cap f t) : zMet eI l yJ4_length_8abf5 cJ4_length_8abf5 1 (some .int) 13 0 0 G [.ref sb] h (fun r h2 => r = nI t.length ∧ h = h2) := by
  refine con_of hl RJ4 rfl (by decide +kernel) [(0, .ref sb)] rfl (Nat.le_of_ble_eq_true rfl) ?_
  intro zp ze zs zm zargs zbelow zmeth zc C hr hin Q hQ
  refine v_aload_n C 0 rfl dJ4_length_8abf5_0 rfl ?_
  refine v_callSU (rest := []) C (c_J5_length_8abf5 l hl G sb ar cap f t h hs) SU_J4_343 hs.1 rfl rfl (Nat.le_of_ble_eq_true rfl) ⟨Nat.le_of_ble_eq_true rfl, Nat.le_of_ble_eq_true rfl⟩ ⟨Nat.le_of_ble_eq_true rfl, Nat.le_of_ble_eq_true rfl⟩ dJ4_length_8abf5_1 (fun i1 h1 q1 => ?_)
  obtain ⟨e1, rfl⟩ := q1; obtain rfl := e1.symm
  exact v_iret C hQ hr rfl (Nat.le_of_ble_eq_true rfl) (Nat.le_of_ble_eq_true rfl) dJ4_length_8abf5_4 ⟨rfl, rfl⟩
set_option maxHeartbeats 4000000 in
set_option maxRecDepth 100000 in
theorem c_J5_inflateIfNeededFor_a7421 (l : Launch) (hl : l.stackTraces = false) (G : zG) (sb ar cap : Nat) (f : Nat → Int32) (t : List Nat) (a b : Nat) (g : Nat → Int32) (s : List Nat) (h : zH) (hs : zSB G h sb ar cap f t) (ht : zTt G h a b g s) : zMet eV l yJ5_inflateIfNeededFor_a7421 cJ5_inflateIfNeededFor_a7421 2 none 13 0 0 G [.ref sb, .ref a] h (fun _ h2 => h = h2) := by
  refine con_of hl RJ5 rfl (by decide +kernel) [(0, .ref sb), (1, .ref a)] rfl (Nat.le_of_ble_eq_true rfl) ?_
  intro zp ze zs zm zargs zbelow zmeth zc C hr hin Q hQ
  refine v_gets C C.2.2.2.2.2.2.1.1.1 G_J5_18 dJ5_inflateIfNeededFor_a7421_0 ?_
  refine v_if_eq (tgt := 21) C dJ5_inflateIfNeededFor_a7421_3 (by decide) (fun c1 => absurd c1 (by decide)) (fun c1 => ?_)
  refine v_aload_n C 0 rfl dJ5_inflateIfNeededFor_a7421_6 rfl ?_
  refine v_get (v := .int 0) C F_J5_22 hs.1 rfl dJ5_inflateIfNeededFor_a7421_7 ?_
  refine v_aload_n C 1 rfl dJ5_inflateIfNeededFor_a7421_10 rfl ?_
  refine v_callT (rest := [.int 0]) C (c_J0_coder_7d493 l hl G a b s.length g h ht.1) K_J5_40 ht.1 rfl rfl (Nat.le_of_ble_eq_true rfl) ⟨Nat.le_of_ble_eq_true rfl, Nat.le_of_ble_eq_true rfl⟩ ⟨Nat.le_of_ble_eq_true rfl, Nat.le_of_ble_eq_true rfl⟩ dJ5_inflateIfNeededFor_a7421_11 (fun i2 h2 q2 => ?_)
  obtain ⟨e2, rfl⟩ := q2; subst e2
  refine v_icmp_eq (tgt := 21) C dJ5_inflateIfNeededFor_a7421_14 (by decide) (fun c3 => ?_) (fun c3 => absurd c3 (by decide))
  exact v_vret C hQ hr (Nat.le_of_ble_eq_true rfl) (Nat.le_of_ble_eq_true rfl) dJ5_inflateIfNeededFor_a7421_21 rfl
set_option maxHeartbeats 4000000 in
set_option maxRecDepth 100000 in
theorem c_J5_putStringAt_47b60 (l : Launch) (hl : l.stackTraces = false) (G : zG) (sb ar cap : Nat) (f : Nat → Int32) (t : List Nat) (a b : Nat) (g : Nat → Int32) (s : List Nat) (h : zH) (hs : zSB G h sb ar cap f t) (ht : zTt G h a b g s) (hrm : t.length + s.length ≤ cap) : zMet eV l yJ5_putStringAt_47b60 cJ5_putStringAt_47b60 3 none 14 0 0 G [.ref sb, .int (nI t.length), .ref a] h (fun _ h2 => ∃ f2, h2 = zup h ar (.inl (gc G 2, cap, .inl f2)) ∧ (∀ j, j < t.length → f2 j = f j) ∧ (∀ j, j < s.length → f2 (t.length + j) = nI (s.getD j 0)) ∧ sb_Fit f2) := by
  refine con_of hl RJ5 rfl (by decide +kernel) [(0, .ref sb), (1, .int (nI t.length)), (2, .ref a)] rfl (Nat.le_of_ble_eq_true rfl) ?_
  intro zp ze zs zm zargs zbelow zmeth zc C hr hin Q hQ
  obtain ⟨s1, s2, s3, s4, s5, s6⟩ := id hs
  refine v_aload_n C 0 rfl dJ5_putStringAt_47b60_0 rfl ?_
  refine v_aload_n C 2 rfl dJ5_putStringAt_47b60_1 rfl ?_
  refine v_callU (rest := []) C (c_J5_inflateIfNeededFor_a7421 l hl G sb ar cap f t a b g s h hs ht) U_J5_397 s1 rfl rfl (Nat.le_of_ble_eq_true rfl) ⟨Nat.le_of_ble_eq_true rfl, Nat.le_of_ble_eq_true rfl⟩ ⟨Nat.le_of_ble_eq_true rfl, Nat.le_of_ble_eq_true rfl⟩ dJ5_putStringAt_47b60_2 (fun _ h1 q1 => ?_)
  subst q1
  refine v_aload_n C 2 rfl dJ5_putStringAt_47b60_5 rfl ?_
  refine v_aload_n C 0 rfl dJ5_putStringAt_47b60_6 rfl ?_
  refine v_get (v := .ref ar) C F_J5_15 s1 rfl dJ5_putStringAt_47b60_7 ?_
  refine v_iload_n C 1 rfl dJ5_putStringAt_47b60_10 rfl ?_
  refine v_aload_n C 0 rfl dJ5_putStringAt_47b60_11 rfl ?_
  refine v_get (v := .int 0) C F_J5_22 s1 rfl dJ5_putStringAt_47b60_12 ?_
  refine v_callT (rest := []) C (c_J0_getBytes_840e7 l hl G ar cap t.length f a b g s h ht s2 hrm s4) K_J5_399 ht.1 rfl rfl (Nat.le_of_ble_eq_true rfl) ⟨Nat.le_of_ble_eq_true rfl, Nat.le_of_ble_eq_true rfl⟩ ⟨Nat.le_of_ble_eq_true rfl, Nat.le_of_ble_eq_true rfl⟩ dJ5_putStringAt_47b60_15 (fun _ h2 w2 => ?_)
  obtain ⟨f2, eh2, lo2, hi2, ft2⟩ := w2
  exact v_vret C hQ hr (Nat.le_of_ble_eq_true rfl) (Nat.le_of_ble_eq_true rfl) dJ5_putStringAt_47b60_18 ⟨f2, eh2, lo2, hi2, ft2 s6⟩
set_option maxHeartbeats 4000000 in
set_option maxRecDepth 100000 in
theorem c_J5_append_cf1ce (l : Launch) (hl : l.stackTraces = false) (G : zG) (sb ar cap : Nat) (f : Nat → Int32) (t : List Nat) (a b : Nat) (g : Nat → Int32) (s : List Nat) (h : zH) (hs : zSB G h sb ar cap f t) (ht : zTt G h a b g s) (hd : zTn G ar a b g s) (hl2 : t.length + s.length ≤ 500) : zMet eR l yJ5_append_cf1ce cJ5_append_cf1ce 3 (some (.object "java/lang/AbstractStringBuilder")) 15 1 1000 G [.ref sb, .ref a] h (fun r h2 => r = sb ∧ ∃ ar2 cap2 f2, zSB G h2 sb ar2 cap2 f2 (t ++ s) ∧ zSt h h2 sb ar ar2) := by
  refine con_of hl RJ5 rfl (by decide +kernel) [(0, .ref sb), (1, .ref a)] rfl (Nat.le_of_ble_eq_true rfl) ?_
  intro zp ze zs zm zargs zbelow zmeth zc C hr hin Q hQ
  obtain ⟨s1, s2, s3, s4, s5, s6⟩ := id hs
  refine v_aload_n C 1 rfl dJ5_append_cf1ce_0 rfl ?_
  refine v_ifnonnull (tgt := 9) C dJ5_append_cf1ce_1 (by decide) ?_
  refine v_aload_n C 1 rfl dJ5_append_cf1ce_9 rfl ?_
  refine v_callT (rest := []) C (c_J0_length_8abf5 l hl G a b s.length g h ht.1) K_J5_32 ht.1 rfl rfl (Nat.le_of_ble_eq_true rfl) ⟨Nat.le_of_ble_eq_true rfl, Nat.le_of_ble_eq_true rfl⟩ ⟨Nat.le_of_ble_eq_true rfl, Nat.le_of_ble_eq_true rfl⟩ dJ5_append_cf1ce_10 (fun i1 h1 q1 => ?_)
  obtain ⟨e1, rfl⟩ := q1; subst e1
  refine v_istore_n C [(2, .int (nI s.length)), (0, .ref sb), (1, .ref a)] rfl (by decide) dJ5_append_cf1ce_13 rfl ?_
  refine v_aload_n C 1 rfl dJ5_append_cf1ce_14 rfl ?_
  refine v_aload_n C 1 rfl dJ5_append_cf1ce_15 rfl ?_
  refine v_get (v := .int (nI t.length)) C F_J5_79 s1 rfl dJ5_append_cf1ce_16 ?_
  refine v_iload_n C 0 rfl dJ5_append_cf1ce_19 rfl ?_
  refine v_iadd C dJ5_append_cf1ce_20 (v_eqi (nI_add t.length s.length) ?_)
  refine v_callU (rest := []) C (c_J5_ensureCapacityInternal_d00df l hl G sb ar cap f t (t.length + s.length) h hs (by omega)) U_J5_100 s1 rfl rfl (Nat.le_of_ble_eq_true rfl) ⟨Nat.le_of_ble_eq_true rfl, Nat.le_of_ble_eq_true rfl⟩ ⟨Nat.le_of_ble_eq_true rfl, Nat.le_of_ble_eq_true rfl⟩ dJ5_append_cf1ce_21 (fun _ h3 w3 => ?_)
  obtain ⟨ar3, cap3, f3, hs3, st3, qc3⟩ := w3
  obtain ⟨s31, s32, s33, s34, s35, s36⟩ := id hs3
  have ht3 := (ht.st hd hs st3).1
  refine v_aload_n C 1 rfl dJ5_append_cf1ce_24 rfl ?_
  refine v_aload_n C 1 rfl dJ5_append_cf1ce_25 rfl ?_
  refine v_get (v := .int (nI t.length)) C F_J5_79 s31 rfl dJ5_append_cf1ce_26 ?_
  refine v_aload_n C 2 rfl dJ5_append_cf1ce_29 rfl ?_
  refine v_callU (rest := []) C (c_J5_putStringAt_47b60 l hl G sb ar3 cap3 f3 t a b g s h3 hs3 ht3 (by omega)) U_J5_208 s31 rfl rfl (Nat.le_of_ble_eq_true rfl) ⟨Nat.le_of_ble_eq_true rfl, Nat.le_of_ble_eq_true rfl⟩ ⟨Nat.le_of_ble_eq_true rfl, Nat.le_of_ble_eq_true rfl⟩ dJ5_append_cf1ce_30 (fun _ h4 w4 => ?_)
  obtain ⟨f4, eh4, lo4, hi4, ft4⟩ := w4
  have k5 : h4 sb = some (.inr (1, [.ref ar3, .int 0, .int 0, .int (nI t.length)])) := by rw [eh4, zup_ne _ _ (zne_io s32 s31)]; exact s31
  have k6 : h4 ar3 = some (.inl (gc G 2, cap3, .inl f4)) := by rw [eh4]; exact zup_self _ _ _
  refine v_aload_n C 1 rfl dJ5_append_cf1ce_33 rfl ?_
  refine v_dup C dJ5_append_cf1ce_34 rfl ?_
  refine v_get (v := .int (nI t.length)) C F_J5_79 k5 rfl dJ5_append_cf1ce_35 ?_
  refine v_iload_n C 0 rfl dJ5_append_cf1ce_38 rfl ?_
  refine v_iadd C dJ5_append_cf1ce_39 (v_eqi (nI_add t.length s.length) ?_)
  refine v_put C [.ref ar3, .int 0, .int 0, .int (nI (t.length + s.length))] P_J5_79 k5 rfl rfl rfl (Nat.le_of_ble_eq_true rfl) dJ5_append_cf1ce_40 (v_nw (fun h8 eh8 => ?_))
  have k9 : h8 ar3 = some (.inl (gc G 2, cap3, .inl f4)) := by rw [eh8, zup_ne _ _ (zne_oi k5 k6)]; exact k6
  have k10 : h8 sb = some (.inr (1, [.ref ar3, .int 0, .int 0, .int (nI (t.length + s.length))])) := by rw [eh8]; exact zup_self _ _ _
  refine v_aload_n C 1 rfl dJ5_append_cf1ce_43 rfl ?_
  exact v_aret C hQ hr (Or.inl ⟨_, rfl⟩) (Nat.le_of_ble_eq_true rfl) (Nat.le_of_ble_eq_true rfl) dJ5_append_cf1ce_44 ⟨rfl, ar3, cap3, f4, ⟨by rw [List.length_append]; exact k10, k9, by rw [List.length_append]; omega, s34, tbs_app s35 lo4 hi4, ft4⟩, (zSt.put (zSt.put st3 eh4 (Or.inr rfl)) eh8 (Or.inl rfl))⟩
theorem upd_lo {f : Nat → Int32} {p j : Nat} {x : Int32} (hp : p < 2 ^ 31) (h : j < p) : upd f (nI p).toNatClampNeg x j = f j := by
  rw [nI_clamp hp]; exact pk_un (by omega)
theorem upd_at {f : Nat → Int32} {p c : Nat} (hp : p < 2 ^ 31) (hc : c < 128) : upd f (nI p).toNatClampNeg (vp_nar .byte (nI c)) p = nI c := by
  rw [nI_clamp hp, pk_us, nar_asc hc]
set_option maxHeartbeats 4000000 in
set_option maxRecDepth 100000 in
theorem c_J5_append_3fe6f (l : Launch) (hl : l.stackTraces = false) (G : zG) (sb ar cap : Nat) (f : Nat → Int32) (t : List Nat) (c : Nat) (h : zH) (hs : zSB G h sb ar cap f t) (hc : c < 128) (hl2 : t.length + 1 ≤ 500) : zMet eR l yJ5_append_3fe6f cJ5_append_3fe6f 2 (some (.object "java/lang/AbstractStringBuilder")) 15 1 1000 G [.ref sb, .int (nI c)] h (fun r h2 => r = sb ∧ ∃ ar2 cap2 f2, zSB G h2 sb ar2 cap2 f2 (t ++ [c]) ∧ zSt h h2 sb ar ar2) := by
  refine con_of hl RJ5 rfl (by decide +kernel) [(0, .ref sb), (1, .int (nI c))] rfl (Nat.le_of_ble_eq_true rfl) ?_
  intro zp ze zs zm zargs zbelow zmeth zc C hr hin Q hQ
  obtain ⟨s1, s2, s3, s4, s5, s6⟩ := id hs
  refine v_aload_n C 0 rfl dJ5_append_3fe6f_0 rfl ?_
  refine v_aload_n C 0 rfl dJ5_append_3fe6f_1 rfl ?_
  refine v_get (v := .int (nI t.length)) C F_J5_79 s1 rfl dJ5_append_3fe6f_2 ?_
  refine v_iconst (v := 1) C dJ5_append_3fe6f_5 (by decide) ?_
  refine v_iadd C dJ5_append_3fe6f_6 (v_eqi (nI_adk t.length 1 (by decide)) ?_)
  refine v_callU (rest := []) C (c_J5_ensureCapacityInternal_d00df l hl G sb ar cap f t (t.length + 1) h hs (by omega)) U_J5_100 s1 rfl rfl (Nat.le_of_ble_eq_true rfl) ⟨Nat.le_of_ble_eq_true rfl, Nat.le_of_ble_eq_true rfl⟩ ⟨Nat.le_of_ble_eq_true rfl, Nat.le_of_ble_eq_true rfl⟩ dJ5_append_3fe6f_7 (fun _ h2 w2 => ?_)
  obtain ⟨ar2, cap2, f2, hs2, st2, qc2⟩ := w2
  obtain ⟨s21, s22, s23, s24, s25, s26⟩ := id hs2
  refine v_aload_n C 0 rfl dJ5_append_3fe6f_10 rfl ?_
  refine v_callU (rest := []) C (c_J5_isLatin1_aae02 l hl G sb ar2 cap2 f2 t h2 hs2) U_J5_83 s21 rfl rfl (Nat.le_of_ble_eq_true rfl) ⟨Nat.le_of_ble_eq_true rfl, Nat.le_of_ble_eq_true rfl⟩ ⟨Nat.le_of_ble_eq_true rfl, Nat.le_of_ble_eq_true rfl⟩ dJ5_append_3fe6f_11 (fun i3 h3 q3 => ?_)
  obtain ⟨e3, rfl⟩ := q3; obtain rfl := e3.symm
  refine v_if_eq (tgt := 45) C dJ5_append_3fe6f_14 (by decide) (fun c4 => absurd c4 (by decide)) (fun c4 => ?_)
  refine v_iload_n C 1 rfl dJ5_append_3fe6f_17 rfl ?_
  refine v_callS (rest := []) C (c_J1_canEncode_fc78d l hl G c h2 hc) S_J5_191 rfl rfl (Nat.le_of_ble_eq_true rfl) ⟨Nat.le_of_ble_eq_true rfl, Nat.le_of_ble_eq_true rfl⟩ ⟨Nat.le_of_ble_eq_true rfl, Nat.le_of_ble_eq_true rfl⟩ dJ5_append_3fe6f_18 (fun i5 h5 q5 => ?_)
  obtain ⟨e5, rfl⟩ := q5; subst e5
  refine v_if_eq (tgt := 45) C dJ5_append_3fe6f_21 (by decide) (fun c6 => absurd c6 (by decide)) (fun c6 => ?_)
  refine v_aload_n C 0 rfl dJ5_append_3fe6f_24 rfl ?_
  refine v_get (v := .ref ar2) C F_J5_15 s21 rfl dJ5_append_3fe6f_25 ?_
  refine v_aload_n C 0 rfl dJ5_append_3fe6f_28 rfl ?_
  refine v_dup C dJ5_append_3fe6f_29 rfl ?_
  refine v_get (v := .int (nI t.length)) C F_J5_79 s21 rfl dJ5_append_3fe6f_30 ?_
  refine v_dup_x1 C dJ5_append_3fe6f_33 rfl rfl ?_
  refine v_iconst (v := 1) C dJ5_append_3fe6f_34 (by decide) ?_
  refine v_iadd C dJ5_append_3fe6f_35 (v_eqi (nI_adk t.length 1 (by decide)) ?_)
  refine v_put C [.ref ar2, .int 0, .int 0, .int (nI (t.length + 1))] P_J5_79 s21 rfl rfl rfl (Nat.le_of_ble_eq_true rfl) dJ5_append_3fe6f_36 (v_nw (fun h8 eh8 => ?_))
  have k9 : h8 ar2 = some (.inl (gc G 2, cap2, .inl f2)) := by rw [eh8, zup_ne _ _ (zne_oi s21 s22)]; exact s22
  have k10 : h8 sb = some (.inr (1, [.ref ar2, .int 0, .int 0, .int (nI (t.length + 1))])) := by rw [eh8]; exact zup_self _ _ _
  refine v_iload_n C 1 rfl dJ5_append_3fe6f_39 rfl ?_
  refine v_i2b C dJ5_append_3fe6f_40 (i2b_asc hc) ?_
  refine v_bast C k9 (vpin (by omega) (by omega)) dJ5_append_3fe6f_41 (v_nw (fun h12 eh12 => ?_))
  have k13 : h12 sb = some (.inr (1, [.ref ar2, .int 0, .int 0, .int (nI (t.length + 1))])) := by rw [eh12, zup_ne _ _ (zne_io k9 k10)]; exact k10
  have k14 : h12 ar2 = some (.inl (gc G 2, cap2, .inl (upd f2 (nI t.length).toNatClampNeg (vp_nar .byte (nI c))))) := by rw [eh12]; exact zup_self _ _ _
  refine v_goto (tgt := 75) C dJ5_append_3fe6f_42 (by decide) ?_
  refine v_aload_n C 0 rfl dJ5_append_3fe6f_75 rfl ?_
  have fz : ∀ j, j < [c].length → (upd f2 (nI t.length).toNatClampNeg (vp_nar .byte (nI c))) (t.length + j) = nI ([c].getD j 0) := fun j hj => by
      have : j = 0 := by simpa using hj
      subst this
      exact upd_at (by omega) hc
  exact v_aret C hQ hr (Or.inl ⟨_, rfl⟩) (Nat.le_of_ble_eq_true rfl) (Nat.le_of_ble_eq_true rfl) dJ5_append_3fe6f_76 ⟨rfl, ar2, cap2, _, ⟨by rw [List.length_append]; exact k13, k14, by rw [List.length_append]; show _ + 1 ≤ _; omega, s24, tbs_app s25 (fun j hj => upd_lo (by omega) hj) fz, sb_fitU s26 (sbF_nar _)⟩, (zSt.put (zSt.put st2 eh8 (Or.inl rfl)) eh12 (Or.inr rfl))⟩
theorem nle_k {a : Nat} {y : Int32} (b : Nat) (hy : y = -nI b) (ha : a < 2 ^ 31) (hb : b < 2 ^ 31) : -nI a ≤ y ↔ b ≤ a := by rw [hy]; exact sb_nle ha hb
theorem nle_kf {a : Nat} {y : Int32} (b : Nat) (hy : y = -nI b) (ha : a < 2 ^ 31) (hb : b < 2 ^ 31) : ¬ -nI a ≤ y ↔ ¬ b ≤ a := not_congr (nle_k b hy ha hb)
theorem nlt_k {a : Nat} {y : Int32} (b : Nat) (hy : y = -nI b) (ha : a < 2 ^ 31) (hb : b < 2 ^ 31) : y < -nI a ↔ a < b := by rw [hy]; exact sb_nlt hb ha
theorem nge_k {a : Nat} {y : Int32} (b : Nat) (hy : y = -nI b) (ha : a < 2 ^ 31) (hb : b < 2 ^ 31) : y ≤ -nI a ↔ a ≤ b := by rw [hy]; exact sb_nle hb ha
set_option maxHeartbeats 4000000 in
set_option maxRecDepth 100000 in
theorem c_J6_stringSize_0f7a4 (l : Launch) (hl : l.stackTraces = false) (G : zG) (v : Nat) (h : zH) (hv7 : v < 10000000) : zMet eI l yJ6_stringSize_0f7a4 cJ6_stringSize_0f7a4 4 (some .int) 12 0 0 G [.int (nI v)] h (fun r h2 => r = nI (sb_dg v) ∧ h = h2) := by
  refine con_of hl RJ6 rfl (by decide +kernel) [(0, .int (nI v))] rfl (Nat.le_of_ble_eq_true rfl) ?_
  intro zp ze zs zm zargs zbelow zmeth zc C hr hin Q hQ
  have hv : v < 2 ^ 31 := by omega
  refine v_iconst (v := 1) C dJ6_stringSize_0f7a4_0 (by decide) ?_
  refine v_istore_n C [(1, .int 1), (0, .int (nI v))] rfl (by decide) dJ6_stringSize_0f7a4_1 rfl ?_
  refine v_iload_n C 1 rfl dJ6_stringSize_0f7a4_2 rfl ?_
  refine v_if_lt (tgt := 11) C dJ6_stringSize_0f7a4_3 (by decide) (fun c1 => absurd ((nk_lt 0 (by decide) hv (by decide)).mp c1) (by omega)) (fun c1 => ?_)
  have c1 := (nk_lt_f (a := v) 0 (by decide) (by omega) (by decide)).mp c1
  refine v_iconst (v := 0) C dJ6_stringSize_0f7a4_6 (by decide) ?_
  refine v_istore_n C [(1, .int 0), (0, .int (nI v))] rfl (by decide) dJ6_stringSize_0f7a4_7 rfl ?_
  refine v_iload_n C 1 rfl dJ6_stringSize_0f7a4_8 rfl ?_
  refine v_ineg C dJ6_stringSize_0f7a4_9 (v_eqi (y := (-nI v)) (rfl) ?_)
  refine v_istore_n C [(0, .int (-nI v)), (1, .int 0)] rfl (by decide) dJ6_stringSize_0f7a4_10 rfl ?_
  refine v_bipush (v := (-10)) C dJ6_stringSize_0f7a4_11 (by decide) ?_
  refine v_istore_n C [(2, .int (-10)), (0, .int (-nI v)), (1, .int 0)] rfl (by decide) dJ6_stringSize_0f7a4_13 rfl ?_
  refine v_iconst (v := 1) C dJ6_stringSize_0f7a4_14 (by decide) ?_
  refine v_istore_n C [(3, .int 1), (2, .int (-10)), (0, .int (-nI v)), (1, .int 0)] rfl (by decide) dJ6_stringSize_0f7a4_15 rfl ?_
  refine v_iload_n C 0 rfl dJ6_stringSize_0f7a4_16 rfl ?_
  refine v_bipush (v := 10) C dJ6_stringSize_0f7a4_17 (by decide) ?_
  refine v_icmp_ge (tgt := 42) C dJ6_stringSize_0f7a4_19 (by decide) (fun c3 => absurd c3 (by decide)) (fun c3 => ?_)
  refine v_iload_n C 2 rfl dJ6_stringSize_0f7a4_22 rfl ?_
  refine v_iload_n C 1 rfl dJ6_stringSize_0f7a4_23 rfl ?_
  refine v_icmp_le (tgt := 31) C dJ6_stringSize_0f7a4_24 (by decide) (fun c4 => ?_) (fun c4 => ?_)
  · have c4 := (nle_k 10 (by decide) hv (by decide)).mp c4
    refine v_bipush (v := 10) C dJ6_stringSize_0f7a4_31 (by decide) ?_
    refine v_iload_n C 1 rfl dJ6_stringSize_0f7a4_33 rfl ?_
    refine v_imul C dJ6_stringSize_0f7a4_34 (v_eqi (y := (-100)) (by decide) ?_)
    refine v_istore_n C [(2, .int (-100)), (3, .int 1), (0, .int (-nI v)), (1, .int 0)] rfl (by decide) dJ6_stringSize_0f7a4_35 rfl ?_
    refine v_iinc C 1 [(3, .int 2), (2, .int (-100)), (0, .int (-nI v)), (1, .int 0)] rfl (by decide) rfl (by decide) dJ6_stringSize_0f7a4_36 ?_
    refine v_goto (tgt := 16) C dJ6_stringSize_0f7a4_39 (by decide) ?_
    refine v_iload_n C 0 rfl dJ6_stringSize_0f7a4_16 rfl ?_
    refine v_bipush (v := 10) C dJ6_stringSize_0f7a4_17 (by decide) ?_
    refine v_icmp_ge (tgt := 42) C dJ6_stringSize_0f7a4_19 (by decide) (fun c7 => absurd c7 (by decide)) (fun c7 => ?_)
    refine v_iload_n C 2 rfl dJ6_stringSize_0f7a4_22 rfl ?_
    refine v_iload_n C 1 rfl dJ6_stringSize_0f7a4_23 rfl ?_
    refine v_icmp_le (tgt := 31) C dJ6_stringSize_0f7a4_24 (by decide) (fun c8 => ?_) (fun c8 => ?_)
    · have c8 := (nle_k 100 (by decide) hv (by decide)).mp c8
      refine v_bipush (v := 10) C dJ6_stringSize_0f7a4_31 (by decide) ?_
      refine v_iload_n C 1 rfl dJ6_stringSize_0f7a4_33 rfl ?_
      refine v_imul C dJ6_stringSize_0f7a4_34 (v_eqi (y := (-1000)) (by decide) ?_)
      refine v_istore_n C [(2, .int (-1000)), (3, .int 2), (0, .int (-nI v)), (1, .int 0)] rfl (by decide) dJ6_stringSize_0f7a4_35 rfl ?_
      refine v_iinc C 1 [(3, .int 3), (2, .int (-1000)), (0, .int (-nI v)), (1, .int 0)] rfl (by decide) rfl (by decide) dJ6_stringSize_0f7a4_36 ?_
      refine v_goto (tgt := 16) C dJ6_stringSize_0f7a4_39 (by decide) ?_
      refine v_iload_n C 0 rfl dJ6_stringSize_0f7a4_16 rfl ?_
      refine v_bipush (v := 10) C dJ6_stringSize_0f7a4_17 (by decide) ?_
      refine v_icmp_ge (tgt := 42) C dJ6_stringSize_0f7a4_19 (by decide) (fun c11 => absurd c11 (by decide)) (fun c11 => ?_)
      refine v_iload_n C 2 rfl dJ6_stringSize_0f7a4_22 rfl ?_
      refine v_iload_n C 1 rfl dJ6_stringSize_0f7a4_23 rfl ?_
      refine v_icmp_le (tgt := 31) C dJ6_stringSize_0f7a4_24 (by decide) (fun c12 => ?_) (fun c12 => ?_)
      · have c12 := (nle_k 1000 (by decide) hv (by decide)).mp c12
        refine v_bipush (v := 10) C dJ6_stringSize_0f7a4_31 (by decide) ?_
        refine v_iload_n C 1 rfl dJ6_stringSize_0f7a4_33 rfl ?_
        refine v_imul C dJ6_stringSize_0f7a4_34 (v_eqi (y := (-10000)) (by decide) ?_)
        refine v_istore_n C [(2, .int (-10000)), (3, .int 3), (0, .int (-nI v)), (1, .int 0)] rfl (by decide) dJ6_stringSize_0f7a4_35 rfl ?_
        refine v_iinc C 1 [(3, .int 4), (2, .int (-10000)), (0, .int (-nI v)), (1, .int 0)] rfl (by decide) rfl (by decide) dJ6_stringSize_0f7a4_36 ?_
        refine v_goto (tgt := 16) C dJ6_stringSize_0f7a4_39 (by decide) ?_
        refine v_iload_n C 0 rfl dJ6_stringSize_0f7a4_16 rfl ?_
        refine v_bipush (v := 10) C dJ6_stringSize_0f7a4_17 (by decide) ?_
        refine v_icmp_ge (tgt := 42) C dJ6_stringSize_0f7a4_19 (by decide) (fun c15 => absurd c15 (by decide)) (fun c15 => ?_)
        refine v_iload_n C 2 rfl dJ6_stringSize_0f7a4_22 rfl ?_
        refine v_iload_n C 1 rfl dJ6_stringSize_0f7a4_23 rfl ?_
        refine v_icmp_le (tgt := 31) C dJ6_stringSize_0f7a4_24 (by decide) (fun c16 => ?_) (fun c16 => ?_)
        · have c16 := (nle_k 10000 (by decide) hv (by decide)).mp c16
          refine v_bipush (v := 10) C dJ6_stringSize_0f7a4_31 (by decide) ?_
          refine v_iload_n C 1 rfl dJ6_stringSize_0f7a4_33 rfl ?_
          refine v_imul C dJ6_stringSize_0f7a4_34 (v_eqi (y := (-100000)) (by decide) ?_)
          refine v_istore_n C [(2, .int (-100000)), (3, .int 4), (0, .int (-nI v)), (1, .int 0)] rfl (by decide) dJ6_stringSize_0f7a4_35 rfl ?_
          refine v_iinc C 1 [(3, .int 5), (2, .int (-100000)), (0, .int (-nI v)), (1, .int 0)] rfl (by decide) rfl (by decide) dJ6_stringSize_0f7a4_36 ?_
          refine v_goto (tgt := 16) C dJ6_stringSize_0f7a4_39 (by decide) ?_
          refine v_iload_n C 0 rfl dJ6_stringSize_0f7a4_16 rfl ?_
          refine v_bipush (v := 10) C dJ6_stringSize_0f7a4_17 (by decide) ?_
          refine v_icmp_ge (tgt := 42) C dJ6_stringSize_0f7a4_19 (by decide) (fun c19 => absurd c19 (by decide)) (fun c19 => ?_)
          refine v_iload_n C 2 rfl dJ6_stringSize_0f7a4_22 rfl ?_
          refine v_iload_n C 1 rfl dJ6_stringSize_0f7a4_23 rfl ?_
          refine v_icmp_le (tgt := 31) C dJ6_stringSize_0f7a4_24 (by decide) (fun c20 => ?_) (fun c20 => ?_)
          · have c20 := (nle_k 100000 (by decide) hv (by decide)).mp c20
            refine v_bipush (v := 10) C dJ6_stringSize_0f7a4_31 (by decide) ?_
            refine v_iload_n C 1 rfl dJ6_stringSize_0f7a4_33 rfl ?_
            refine v_imul C dJ6_stringSize_0f7a4_34 (v_eqi (y := (-1000000)) (by decide) ?_)
            refine v_istore_n C [(2, .int (-1000000)), (3, .int 5), (0, .int (-nI v)), (1, .int 0)] rfl (by decide) dJ6_stringSize_0f7a4_35 rfl ?_
            refine v_iinc C 1 [(3, .int 6), (2, .int (-1000000)), (0, .int (-nI v)), (1, .int 0)] rfl (by decide) rfl (by decide) dJ6_stringSize_0f7a4_36 ?_
            refine v_goto (tgt := 16) C dJ6_stringSize_0f7a4_39 (by decide) ?_
            refine v_iload_n C 0 rfl dJ6_stringSize_0f7a4_16 rfl ?_
            refine v_bipush (v := 10) C dJ6_stringSize_0f7a4_17 (by decide) ?_
            refine v_icmp_ge (tgt := 42) C dJ6_stringSize_0f7a4_19 (by decide) (fun c23 => absurd c23 (by decide)) (fun c23 => ?_)
            refine v_iload_n C 2 rfl dJ6_stringSize_0f7a4_22 rfl ?_
            refine v_iload_n C 1 rfl dJ6_stringSize_0f7a4_23 rfl ?_
            refine v_icmp_le (tgt := 31) C dJ6_stringSize_0f7a4_24 (by decide) (fun c24 => ?_) (fun c24 => ?_)
            · have c24 := (nle_k 1000000 (by decide) hv (by decide)).mp c24
              refine v_bipush (v := 10) C dJ6_stringSize_0f7a4_31 (by decide) ?_
              refine v_iload_n C 1 rfl dJ6_stringSize_0f7a4_33 rfl ?_
              refine v_imul C dJ6_stringSize_0f7a4_34 (v_eqi (y := (-10000000)) (by decide) ?_)
              refine v_istore_n C [(2, .int (-10000000)), (3, .int 6), (0, .int (-nI v)), (1, .int 0)] rfl (by decide) dJ6_stringSize_0f7a4_35 rfl ?_
              refine v_iinc C 1 [(3, .int 7), (2, .int (-10000000)), (0, .int (-nI v)), (1, .int 0)] rfl (by decide) rfl (by decide) dJ6_stringSize_0f7a4_36 ?_
              refine v_goto (tgt := 16) C dJ6_stringSize_0f7a4_39 (by decide) ?_
              refine v_iload_n C 0 rfl dJ6_stringSize_0f7a4_16 rfl ?_
              refine v_bipush (v := 10) C dJ6_stringSize_0f7a4_17 (by decide) ?_
              refine v_icmp_ge (tgt := 42) C dJ6_stringSize_0f7a4_19 (by decide) (fun c27 => absurd c27 (by decide)) (fun c27 => ?_)
              refine v_iload_n C 2 rfl dJ6_stringSize_0f7a4_22 rfl ?_
              refine v_iload_n C 1 rfl dJ6_stringSize_0f7a4_23 rfl ?_
              refine v_icmp_le (tgt := 31) C dJ6_stringSize_0f7a4_24 (by decide) (fun c28 => absurd ((nle_k 10000000 (by decide) hv (by decide)).mp c28) (by omega)) (fun c28 => ?_)
              have c28 := (nle_kf 10000000 (by decide) hv (by decide)).mp c28
              refine v_iload_n C 0 rfl dJ6_stringSize_0f7a4_27 rfl ?_
              refine v_iload_n C 3 rfl dJ6_stringSize_0f7a4_28 rfl ?_
              refine v_iadd C dJ6_stringSize_0f7a4_29 (v_eqi (y := 7) (by decide) ?_)
              exact v_iret C hQ hr rfl (Nat.le_of_ble_eq_true rfl) (Nat.le_of_ble_eq_true rfl) dJ6_stringSize_0f7a4_30 ⟨(by rw [show sb_dg v = 7 by unfold sb_dg; repeat' split <;> try omega]; decide), rfl⟩
            · have c24 := (nle_kf 1000000 (by decide) hv (by decide)).mp c24
              refine v_iload_n C 0 rfl dJ6_stringSize_0f7a4_27 rfl ?_
              refine v_iload_n C 3 rfl dJ6_stringSize_0f7a4_28 rfl ?_
              refine v_iadd C dJ6_stringSize_0f7a4_29 (v_eqi (y := 6) (by decide) ?_)
              exact v_iret C hQ hr rfl (Nat.le_of_ble_eq_true rfl) (Nat.le_of_ble_eq_true rfl) dJ6_stringSize_0f7a4_30 ⟨(by rw [show sb_dg v = 6 by unfold sb_dg; repeat' split <;> try omega]; decide), rfl⟩
          · have c20 := (nle_kf 100000 (by decide) hv (by decide)).mp c20
            refine v_iload_n C 0 rfl dJ6_stringSize_0f7a4_27 rfl ?_
            refine v_iload_n C 3 rfl dJ6_stringSize_0f7a4_28 rfl ?_
            refine v_iadd C dJ6_stringSize_0f7a4_29 (v_eqi (y := 5) (by decide) ?_)
            exact v_iret C hQ hr rfl (Nat.le_of_ble_eq_true rfl) (Nat.le_of_ble_eq_true rfl) dJ6_stringSize_0f7a4_30 ⟨(by rw [show sb_dg v = 5 by unfold sb_dg; repeat' split <;> try omega]; decide), rfl⟩
        · have c16 := (nle_kf 10000 (by decide) hv (by decide)).mp c16
          refine v_iload_n C 0 rfl dJ6_stringSize_0f7a4_27 rfl ?_
          refine v_iload_n C 3 rfl dJ6_stringSize_0f7a4_28 rfl ?_
          refine v_iadd C dJ6_stringSize_0f7a4_29 (v_eqi (y := 4) (by decide) ?_)
          exact v_iret C hQ hr rfl (Nat.le_of_ble_eq_true rfl) (Nat.le_of_ble_eq_true rfl) dJ6_stringSize_0f7a4_30 ⟨(by rw [show sb_dg v = 4 by unfold sb_dg; repeat' split <;> try omega]; decide), rfl⟩
      · have c12 := (nle_kf 1000 (by decide) hv (by decide)).mp c12
        refine v_iload_n C 0 rfl dJ6_stringSize_0f7a4_27 rfl ?_
        refine v_iload_n C 3 rfl dJ6_stringSize_0f7a4_28 rfl ?_
        refine v_iadd C dJ6_stringSize_0f7a4_29 (v_eqi (y := 3) (by decide) ?_)
        exact v_iret C hQ hr rfl (Nat.le_of_ble_eq_true rfl) (Nat.le_of_ble_eq_true rfl) dJ6_stringSize_0f7a4_30 ⟨(by rw [show sb_dg v = 3 by unfold sb_dg; repeat' split <;> try omega]; decide), rfl⟩
    · have c8 := (nle_kf 100 (by decide) hv (by decide)).mp c8
      refine v_iload_n C 0 rfl dJ6_stringSize_0f7a4_27 rfl ?_
      refine v_iload_n C 3 rfl dJ6_stringSize_0f7a4_28 rfl ?_
      refine v_iadd C dJ6_stringSize_0f7a4_29 (v_eqi (y := 2) (by decide) ?_)
      exact v_iret C hQ hr rfl (Nat.le_of_ble_eq_true rfl) (Nat.le_of_ble_eq_true rfl) dJ6_stringSize_0f7a4_30 ⟨(by rw [show sb_dg v = 2 by unfold sb_dg; repeat' split <;> try omega]; decide), rfl⟩
  · have c4 := (nle_kf 10 (by decide) hv (by decide)).mp c4
    refine v_iload_n C 0 rfl dJ6_stringSize_0f7a4_27 rfl ?_
    refine v_iload_n C 3 rfl dJ6_stringSize_0f7a4_28 rfl ?_
    refine v_iadd C dJ6_stringSize_0f7a4_29 (v_eqi (y := 1) (by decide) ?_)
    exact v_iret C hQ hr rfl (Nat.le_of_ble_eq_true rfl) (Nat.le_of_ble_eq_true rfl) dJ6_stringSize_0f7a4_30 ⟨(by rw [show sb_dg v = 1 by unfold sb_dg; repeat' split <;> try omega]; decide), rfl⟩
def gk (v w : Nat) : Prop := ∃ k, w = v / 100 ^ k ∧ sb_dg v = sb_dg w + 2 * k
theorem gk0 (v : Nat) : gk v v := ⟨0, by simp, by simp⟩
theorem gk1 {v w : Nat} (h : gk v w) (hw : 100 ≤ w) (hv : w < 2 ^ 31) : gk v (w / 100) := by
  obtain ⟨k, h1, h2⟩ := h
  refine ⟨k + 1, by rw [h1, Nat.div_div_eq_div_mul, Nat.pow_succ], ?_⟩
  have := sb_dg100 hw hv
  omega
theorem gkd {v w : Nat} (h : gk v w) (i : Nat) (hi : i + 1 ≤ sb_dg w) : sb_dec v i = 48 + w / 10 ^ (sb_dg w - 1 - i) % 10 := by
  obtain ⟨k, h1, h2⟩ := h
  have e : sb_dg v - 1 - i = 2 * k + (sb_dg w - 1 - i) := by omega
  have e2 : (100 : Nat) ^ k = 10 ^ (2 * k) := by rw [Nat.pow_mul]
  rw [e2] at h1
  unfold sb_dec
  rw [e, Nat.pow_add, ← Nat.div_div_eq_div_mul, ← h1]
theorem gkl {v w : Nat} (h : gk v w) : sb_dg w ≤ sb_dg v := by
  obtain ⟨k, h1, h2⟩ := h
  omega
theorem gkd1 {v w : Nat} (h : gk v w) : sb_dec v (sb_dg w - 1) = 48 + w % 10 := by
  have := sb_dg_in w
  rw [gkd h _ (by omega), show sb_dg w - 1 - (sb_dg w - 1) = 0 by omega]; simp
theorem gkd2 {v w : Nat} (h : gk v w) (h2 : 2 ≤ sb_dg w) : sb_dec v (sb_dg w - 2) = 48 + w / 10 % 10 := by
  rw [gkd h _ (by omega), show sb_dg w - 1 - (sb_dg w - 2) = 1 by omega]
def dgs (v B : Nat) (f : Nat → Int32) (m : Nat) : Prop := ∀ j, m ≤ j → j < sb_dg v → f (B + j) = nI (sb_dec v j)
theorem dgs_put {v B m c : Nat} {f : Nat → Int32} (h : dgs v B f (m + 1)) (hp : B + m < 2 ^ 31) (hc : c < 128) (he : sb_dec v m = c) : dgs v B (upd f (nI (B + m)).toNatClampNeg (vp_nar .byte (nI c))) m := fun j h1 h2 => by
  by_cases q : j = m
  · subst q; rw [upd_at hp hc, he]
  · rw [nI_clamp hp, pk_un (by omega)]; exact h j (by omega) h2
theorem dg_ge2 {w : Nat} (h : 10 ≤ w) : 2 ≤ sb_dg w := by
  unfold sb_dg; repeat' split <;> try omega
theorem dg_lt10 {w : Nat} (h : w < 10) : sb_dg w = 1 := by unfold sb_dg; rw [if_pos h]
theorem dg_eq2 {w : Nat} (h : 10 ≤ w) (h2 : w < 100) : sb_dg w = 2 := by unfold sb_dg; rw [if_neg (by omega), if_pos h2]
theorem upd_lo' {f : Nat → Int32} {p j : Nat} {x : Int32} (hp : p < 2 ^ 31) (h : j < p) : upd f (nI p).toNatClampNeg x j = f j := upd_lo hp h
theorem gc_two {v w B : Nat} {f : Nat → Int32} (hg : gk v w) (wg : 100 ≤ w) (hw : w < 2 ^ 31) (hB : B + sb_dg w < 2 ^ 31) (hd : dgs v B f (sb_dg w)) : dgs v B (upd (upd f (nI (B + sb_dg w - 1)).toNatClampNeg (vp_nar .byte (nI (48 + w % 100 % 10)))) (nI (B + sb_dg w - 1 - 1)).toNatClampNeg (vp_nar .byte (nI (48 + w % 100 / 10)))) (sb_dg (w / 100)) := by
  have q := sb_dg100 wg hw
  have q1 := sb_dg_in (w / 100)
  have a : dgs v B (upd f (nI (B + (sb_dg w - 1))).toNatClampNeg (vp_nar .byte (nI (48 + w % 100 % 10)))) (sb_dg w - 1) := dgs_put (by rw [show sb_dg w - 1 + 1 = sb_dg w by omega]; exact hd) (by omega) (by omega) (by rw [gkd1 hg]; omega)
  have b := dgs_put (c := 48 + w % 100 / 10) (m := sb_dg w - 2) (by rw [show sb_dg w - 2 + 1 = sb_dg w - 1 by omega]; exact a) (by omega) (by omega) (by rw [gkd2 hg (by omega)]; omega)
  rw [show B + sb_dg w - 1 = B + (sb_dg w - 1) by omega, show B + (sb_dg w - 1) - 1 = B + (sb_dg w - 2) by omega, show sb_dg (w / 100) = sb_dg w - 2 by omega]
  exact b
theorem gc_one {v w B : Nat} {f : Nat → Int32} (hg : gk v w) (wl : w < 10) (hB : B + sb_dg w < 2 ^ 31) (hd : dgs v B f (sb_dg w)) : dgs v B (upd f (nI (B + sb_dg w - 1)).toNatClampNeg (vp_nar .byte (nI (48 + w % 10)))) 0 := by
  have q := dg_lt10 wl
  have a := dgs_put (c := 48 + w % 10) (m := 0) (by rw [q] at hd; exact hd) (by omega) (by omega) (by have := gkd1 hg; rw [q] at this; exact this)
  rw [q, show B + 1 - 1 = B + 0 by omega]; exact a
theorem gc_last {v w B : Nat} {f : Nat → Int32} (hg : gk v w) (wl : 10 ≤ w) (wh : w < 100) (hB : B + sb_dg w < 2 ^ 31) (hd : dgs v B f (sb_dg w)) : dgs v B (upd (upd f (nI (B + sb_dg w - 1)).toNatClampNeg (vp_nar .byte (nI (48 + w % 10)))) (nI (B + sb_dg w - 1 - 1)).toNatClampNeg (vp_nar .byte (nI (48 + w / 10)))) 0 := by
  have q := dg_eq2 wl wh
  have a := dgs_put (c := 48 + w % 10) (m := 1) (by rw [q] at hd; exact hd) (by omega) (by omega) (by have := gkd1 hg; rw [q] at this; exact this)
  have b := dgs_put (c := 48 + w / 10) (m := 0) a (by omega) (by omega) (by have := gkd2 hg (by omega); rw [q] at this; rw [this]; omega)
  rw [q, show B + 2 - 1 = B + 1 by omega, show B + 1 - 1 = B + 0 by omega]; exact b
set_option maxHeartbeats 4000000 in
set_option maxRecDepth 100000 in
theorem c_J6_getChars_ba4f3 (l : Launch) (hl : l.stackTraces = false) (G : zG) (v B ar cap : Nat) (f : Nat → Int32) (h : zH) (hA : h ar = some (.inl (gc G 2, cap, .inl f))) (hv : v < 2 ^ 31) (hf : sb_Fit f) (hB : B + sb_dg v ≤ cap) (hc : cap ≤ 1000) : zMet eI l yJ6_getChars_ba4f3 cJ6_getChars_ba4f3 7 (some .int) 12 0 0 G [.int (nI v), .int (nI (B + sb_dg v)), .ref ar] h (fun _ h2 => ∃ f2, h2 = zup h ar (.inl (gc G 2, cap, .inl f2)) ∧ (∀ j, j < B → f2 j = f j) ∧ (∀ j, j < sb_dg v → f2 (B + j) = nI (sb_dec v j)) ∧ sb_Fit f2) := by
  refine con_of hl RJ6 rfl (by decide +kernel) [(0, .int (nI v)), (1, .int (nI (B + sb_dg v))), (2, .ref ar)] rfl (Nat.le_of_ble_eq_true rfl) ?_
  intro zp ze zs zm zargs zbelow zmeth zc C hr hin Q hQ
  refine v_iload_n C 1 rfl dJ6_getChars_ba4f3_0 rfl ?_
  refine v_istore C [(5, .int (nI (B + sb_dg v))), (0, .int (nI v)), (1, .int (nI (B + sb_dg v))), (2, .ref ar)] rfl (by decide) dJ6_getChars_ba4f3_1 ?_
  refine v_iload_n C 1 rfl dJ6_getChars_ba4f3_3 rfl ?_
  refine v_if_ge (tgt := 11) C dJ6_getChars_ba4f3_4 (by decide) (fun c1 => ?_) (fun c1 => absurd ((nk_ge (a := v) (y := 0) 0 (by decide) hv (by decide)).mpr (Nat.zero_le _)) c1)
  have c1 := (nk_ge (a := v) 0 (by decide) (by omega) (by decide)).mp c1
  refine v_iconst (v := 0) C dJ6_getChars_ba4f3_11 (by decide) ?_
  refine v_istore C [(6, .int 0), (5, .int (nI (B + sb_dg v))), (0, .int (nI v)), (1, .int (nI (B + sb_dg v))), (2, .ref ar)] rfl (by decide) dJ6_getChars_ba4f3_12 ?_
  refine v_iload C 0 rfl dJ6_getChars_ba4f3_14 ?_
  refine v_if_ne (tgt := 22) C dJ6_getChars_ba4f3_16 (by decide) (fun c2 => absurd c2 (by decide)) (fun c2 => ?_)
  refine v_iload_n C 2 rfl dJ6_getChars_ba4f3_19 rfl ?_
  refine v_ineg C dJ6_getChars_ba4f3_20 (v_eqi (y := (-nI v)) (rfl) ?_)
  refine v_istore_n C [(0, .int (-nI v)), (6, .int 0), (5, .int (nI (B + sb_dg v))), (1, .int (nI (B + sb_dg v))), (2, .ref ar)] rfl (by decide) dJ6_getChars_ba4f3_21 rfl ?_
  have L4 : ∀ (d : Nat) (w : Nat) (f2 : Nat → Int32) (h2 : zH), (w < 2 ^ 31) → (gk v w) → (h2 ar = some (.inl (gc G 2, cap, .inl f2))) → (∀ b, b ≠ ar → h2 b = h b) → (∀ j, j < B → f2 j = f j) → (dgs v B f2 (sb_dg w)) → (sb_Fit f2) → (w + 1 ≤ d) → V zp l ze (rmm 12 0 0) zs zm zargs zbelow zmeth zc G 7 Q h2 (0) (0) 22 [(0, .int (-nI w)), (2, .ref ar), (5, .int (nI (B + sb_dg w))), (6, .int 0)] [] := by
    intro d
    induction d with
    | zero =>
      intro w f2 h2 hw hg hA hk hlo hd2 hf2 hd
      exact absurd hd (by omega)
    | succ d ih4 =>
      intro w f2 h2 hw hg hA hk hlo hd2 hf2 hd
      refine v_iload_n C 0 rfl dJ6_getChars_ba4f3_22 rfl ?_
      refine v_bipush (v := (-100)) C dJ6_getChars_ba4f3_23 (by decide) ?_
      refine v_icmp_gt (tgt := 72) C dJ6_getChars_ba4f3_25 (by decide) (fun c5 => ?_) (fun c5 => ?_)
      · have wg : w < 100 := by have := nlt_k (a := w) (y := (-100)) 100 (by decide) hw (by decide); exact this.mp c5
        have dgi := sb_dg_in w
        have dgl := gkl hg
        refine v_aload_n C 1 rfl dJ6_getChars_ba4f3_72 rfl ?_
        refine v_iinc C 2 [(5, .int (nI ((B + sb_dg w) - 1))), (0, .int (-nI w)), (2, .ref ar), (6, .int 0)] rfl (nI_dec (p := (B + sb_dg w)) (by omega)) rfl (by decide) dJ6_getChars_ba4f3_73 ?_
        refine v_iload C 0 rfl dJ6_getChars_ba4f3_76 ?_
        refine v_gets C C.2.2.2.2.2.2.1.1.2.2.2.1 G_J6_83 dJ6_getChars_ba4f3_78 ?_
        refine v_iload_n C 1 rfl dJ6_getChars_ba4f3_81 rfl ?_
        refine v_ineg C dJ6_getChars_ba4f3_82 (v_eqi (y := (nI w)) (Int32.neg_neg) ?_)
        refine v_tb (v := .int (nI (48 + w % 10))) C C.2.2.2.2.2.2.1.1.2.2.2.2.1 (vpin (by omega) (by decide)) (congrArg (fun j => Value.int (nI (48 + j % 10))) (nI_clamp (by omega))) dJ6_getChars_ba4f3_83 ?_
        refine v_bast C hA (vpin (by omega) (by omega)) dJ6_getChars_ba4f3_84 (v_nw (fun h8 eh8 => ?_))
        have k9 : h8 ar = some (.inl (gc G 2, cap, .inl (upd f2 (nI ((B + sb_dg w) - 1)).toNatClampNeg (vp_nar .byte (nI (48 + w % 10)))))) := by rw [eh8]; exact zup_self _ _ _
        have hk10 : ∀ b, b ≠ ar → h8 b = h b := fun b hb => by rw [eh8, zup_ne _ _ hb]; exact hk b hb
        have lo10 : ∀ j, j < B → (upd f2 (nI ((B + sb_dg w) - 1)).toNatClampNeg (vp_nar .byte (nI (48 + w % 10)))) j = f j := fun j hj => (upd_lo' (by omega) (by omega)).trans (hlo j hj)
        have ff10 : sb_Fit (upd f2 (nI ((B + sb_dg w) - 1)).toNatClampNeg (vp_nar .byte (nI (48 + w % 10)))) := sb_fitU hf2 (sbF_nar _)
        refine v_iload_n C 1 rfl dJ6_getChars_ba4f3_85 rfl ?_
        refine v_bipush (v := (-9)) C dJ6_getChars_ba4f3_86 (by decide) ?_
        refine v_icmp_ge (tgt := 104) C dJ6_getChars_ba4f3_88 (by decide) (fun c11 => ?_) (fun c11 => ?_)
        · have wt : w < 10 := by have := nge_k (a := w) (y := (-9)) 9 (by decide) hw (by decide); have := this.mp c11; omega
          refine v_iload C 3 rfl dJ6_getChars_ba4f3_104 ?_
          refine v_if_eq (tgt := 118) C dJ6_getChars_ba4f3_106 (by decide) (fun c12 => ?_) (fun c12 => absurd c12 (by decide))
          refine v_iload C 0 rfl dJ6_getChars_ba4f3_118 ?_
          exact v_iret C hQ hr rfl (Nat.le_of_ble_eq_true rfl) (Nat.le_of_ble_eq_true rfl) dJ6_getChars_ba4f3_120 ⟨_, zup_of k9 hk10, lo10, fun j hj => (gc_one hg (by omega) (by omega) hd2) j (Nat.zero_le _) hj, ff10⟩
        · have wt : 10 ≤ w := by have := nge_k (a := w) (y := (-9)) 9 (by decide) hw (by decide); exact Nat.lt_of_not_le (fun q => c11 (this.mpr q))
          have dg2 := dg_eq2 wt wg
          refine v_aload_n C 2 rfl dJ6_getChars_ba4f3_91 rfl ?_
          refine v_iinc C 0 [(5, .int (nI (((B + sb_dg w) - 1) - 1))), (0, .int (-nI w)), (2, .ref ar), (6, .int 0)] rfl (nI_dec (p := ((B + sb_dg w) - 1)) (by omega)) rfl (by decide) dJ6_getChars_ba4f3_92 ?_
          refine v_iload C 0 rfl dJ6_getChars_ba4f3_95 ?_
          refine v_gets C C.2.2.2.2.2.2.1.1.2.2.2.2.2.1 G_J6_87 dJ6_getChars_ba4f3_97 ?_
          refine v_iload_n C 1 rfl dJ6_getChars_ba4f3_100 rfl ?_
          refine v_ineg C dJ6_getChars_ba4f3_101 (v_eqi (y := (nI w)) (Int32.neg_neg) ?_)
          refine v_tb (v := .int (nI (48 + w / 10))) C C.2.2.2.2.2.2.1.1.2.2.2.2.2.2 (vpin (by omega) (by decide)) (congrArg (fun j => Value.int (nI (48 + j / 10))) (nI_clamp (by omega))) dJ6_getChars_ba4f3_102 ?_
          refine v_bast C k9 (vpin (by omega) (by omega)) dJ6_getChars_ba4f3_103 (v_nw (fun h15 eh15 => ?_))
          have k16 : h15 ar = some (.inl (gc G 2, cap, .inl (upd (upd f2 (nI ((B + sb_dg w) - 1)).toNatClampNeg (vp_nar .byte (nI (48 + w % 10)))) (nI (((B + sb_dg w) - 1) - 1)).toNatClampNeg (vp_nar .byte (nI (48 + w / 10)))))) := by rw [eh15]; exact zup_self _ _ _
          have hk17 : ∀ b, b ≠ ar → h15 b = h b := fun b hb => by rw [eh15, zup_ne _ _ hb]; exact hk10 b hb
          have lo17 : ∀ j, j < B → (upd (upd f2 (nI ((B + sb_dg w) - 1)).toNatClampNeg (vp_nar .byte (nI (48 + w % 10)))) (nI (((B + sb_dg w) - 1) - 1)).toNatClampNeg (vp_nar .byte (nI (48 + w / 10)))) j = f j := fun j hj => (upd_lo' (by omega) (by omega)).trans (lo10 j hj)
          have ff17 : sb_Fit (upd (upd f2 (nI ((B + sb_dg w) - 1)).toNatClampNeg (vp_nar .byte (nI (48 + w % 10)))) (nI (((B + sb_dg w) - 1) - 1)).toNatClampNeg (vp_nar .byte (nI (48 + w / 10)))) := sb_fitU ff10 (sbF_nar _)
          refine v_iload C 3 rfl dJ6_getChars_ba4f3_104 ?_
          refine v_if_eq (tgt := 118) C dJ6_getChars_ba4f3_106 (by decide) (fun c18 => ?_) (fun c18 => absurd c18 (by decide))
          refine v_iload C 0 rfl dJ6_getChars_ba4f3_118 ?_
          exact v_iret C hQ hr rfl (Nat.le_of_ble_eq_true rfl) (Nat.le_of_ble_eq_true rfl) dJ6_getChars_ba4f3_120 ⟨_, zup_of k16 hk17, lo17, fun j hj => (gc_last hg (by omega) (by omega) (by omega) hd2) j (Nat.zero_le _) hj, ff17⟩
      · have wg : 100 ≤ w := by have := nlt_k (a := w) (y := (-100)) 100 (by decide) hw (by decide); exact Nat.le_of_not_lt (fun q => c5 (this.mpr q))
        have dgi := sb_dg_in w
        have dgl := gkl hg
        have dgz := sb_dg100 wg hw
        have dgy := sb_dg_in (w / 100)
        refine v_iload_n C 0 rfl dJ6_getChars_ba4f3_28 rfl ?_
        refine v_bipush (v := 100) C dJ6_getChars_ba4f3_29 (by decide) ?_
        refine v_idiv C dJ6_getChars_ba4f3_31 (by decide) (v_eqi (y := (-nI (w / 100))) (sb_ndiv hw) ?_)
        refine v_istore_n C [(3, .int (-nI (w / 100))), (0, .int (-nI w)), (2, .ref ar), (5, .int (nI (B + sb_dg w))), (6, .int 0)] rfl (by decide) dJ6_getChars_ba4f3_32 rfl ?_
        refine v_iload_n C 0 rfl dJ6_getChars_ba4f3_33 rfl ?_
        refine v_bipush (v := 100) C dJ6_getChars_ba4f3_34 (by decide) ?_
        refine v_imul C dJ6_getChars_ba4f3_36 (v_eqi (y := ((-nI (w / 100)) * 100)) (rfl) ?_)
        refine v_iload_n C 1 rfl dJ6_getChars_ba4f3_37 rfl ?_
        refine v_isub C dJ6_getChars_ba4f3_38 (v_eqi (y := (nI (w % 100))) (sb_nrem hw) ?_)
        refine v_istore C [(4, .int (nI (w % 100))), (3, .int (-nI (w / 100))), (0, .int (-nI w)), (2, .ref ar), (5, .int (nI (B + sb_dg w))), (6, .int 0)] rfl (by decide) dJ6_getChars_ba4f3_39 ?_
        refine v_iload_n C 1 rfl dJ6_getChars_ba4f3_41 rfl ?_
        refine v_istore_n C [(0, .int (-nI (w / 100))), (4, .int (nI (w % 100))), (3, .int (-nI (w / 100))), (2, .ref ar), (5, .int (nI (B + sb_dg w))), (6, .int 0)] rfl (by decide) dJ6_getChars_ba4f3_42 rfl ?_
        refine v_aload_n C 3 rfl dJ6_getChars_ba4f3_43 rfl ?_
        refine v_iinc C 4 [(5, .int (nI ((B + sb_dg w) - 1))), (0, .int (-nI (w / 100))), (4, .int (nI (w % 100))), (3, .int (-nI (w / 100))), (2, .ref ar), (6, .int 0)] rfl (nI_dec (p := (B + sb_dg w)) (by omega)) rfl (by decide) dJ6_getChars_ba4f3_44 ?_
        refine v_iload C 0 rfl dJ6_getChars_ba4f3_47 ?_
        refine v_gets C C.2.2.2.2.2.2.1.1.2.2.2.1 G_J6_83 dJ6_getChars_ba4f3_49 ?_
        refine v_iload C 2 rfl dJ6_getChars_ba4f3_52 ?_
        refine v_tb (v := .int (nI (48 + (w % 100) % 10))) C C.2.2.2.2.2.2.1.1.2.2.2.2.1 (vpin (by omega) (by decide)) (congrArg (fun j => Value.int (nI (48 + j % 10))) (nI_clamp (by omega))) dJ6_getChars_ba4f3_54 ?_
        refine v_bast C hA (vpin (by omega) (by omega)) dJ6_getChars_ba4f3_55 (v_nw (fun h23 eh23 => ?_))
        have k24 : h23 ar = some (.inl (gc G 2, cap, .inl (upd f2 (nI ((B + sb_dg w) - 1)).toNatClampNeg (vp_nar .byte (nI (48 + (w % 100) % 10)))))) := by rw [eh23]; exact zup_self _ _ _
        have hk25 : ∀ b, b ≠ ar → h23 b = h b := fun b hb => by rw [eh23, zup_ne _ _ hb]; exact hk b hb
        have lo25 : ∀ j, j < B → (upd f2 (nI ((B + sb_dg w) - 1)).toNatClampNeg (vp_nar .byte (nI (48 + (w % 100) % 10)))) j = f j := fun j hj => (upd_lo' (by omega) (by omega)).trans (hlo j hj)
        have ff25 : sb_Fit (upd f2 (nI ((B + sb_dg w) - 1)).toNatClampNeg (vp_nar .byte (nI (48 + (w % 100) % 10)))) := sb_fitU hf2 (sbF_nar _)
        refine v_aload_n C 4 rfl dJ6_getChars_ba4f3_56 rfl ?_
        refine v_iinc C 0 [(5, .int (nI (((B + sb_dg w) - 1) - 1))), (0, .int (-nI (w / 100))), (4, .int (nI (w % 100))), (3, .int (-nI (w / 100))), (2, .ref ar), (6, .int 0)] rfl (nI_dec (p := ((B + sb_dg w) - 1)) (by omega)) rfl (by decide) dJ6_getChars_ba4f3_57 ?_
        refine v_iload C 0 rfl dJ6_getChars_ba4f3_60 ?_
        refine v_gets C C.2.2.2.2.2.2.1.1.2.2.2.2.2.1 G_J6_87 dJ6_getChars_ba4f3_62 ?_
        refine v_iload C 2 rfl dJ6_getChars_ba4f3_65 ?_
        refine v_tb (v := .int (nI (48 + (w % 100) / 10))) C C.2.2.2.2.2.2.1.1.2.2.2.2.2.2 (vpin (by omega) (by decide)) (congrArg (fun j => Value.int (nI (48 + j / 10))) (nI_clamp (by omega))) dJ6_getChars_ba4f3_67 ?_
        refine v_bast C k24 (vpin (by omega) (by omega)) dJ6_getChars_ba4f3_68 (v_nw (fun h27 eh27 => ?_))
        have k28 : h27 ar = some (.inl (gc G 2, cap, .inl (upd (upd f2 (nI ((B + sb_dg w) - 1)).toNatClampNeg (vp_nar .byte (nI (48 + (w % 100) % 10)))) (nI (((B + sb_dg w) - 1) - 1)).toNatClampNeg (vp_nar .byte (nI (48 + (w % 100) / 10)))))) := by rw [eh27]; exact zup_self _ _ _
        have hk29 : ∀ b, b ≠ ar → h27 b = h b := fun b hb => by rw [eh27, zup_ne _ _ hb]; exact hk25 b hb
        have lo29 : ∀ j, j < B → (upd (upd f2 (nI ((B + sb_dg w) - 1)).toNatClampNeg (vp_nar .byte (nI (48 + (w % 100) % 10)))) (nI (((B + sb_dg w) - 1) - 1)).toNatClampNeg (vp_nar .byte (nI (48 + (w % 100) / 10)))) j = f j := fun j hj => (upd_lo' (by omega) (by omega)).trans (lo25 j hj)
        have ff29 : sb_Fit (upd (upd f2 (nI ((B + sb_dg w) - 1)).toNatClampNeg (vp_nar .byte (nI (48 + (w % 100) % 10)))) (nI (((B + sb_dg w) - 1) - 1)).toNatClampNeg (vp_nar .byte (nI (48 + (w % 100) / 10)))) := sb_fitU ff25 (sbF_nar _)
        refine v_goto (tgt := 22) C dJ6_getChars_ba4f3_69 (by decide) ?_
        refine v_lvp [1, 4, 0, 5] rfl ?_
        rw [show B + sb_dg w - 1 - 1 = B + sb_dg (w / 100) by omega]
        exact ih4 (w / 100) _ h27 (by omega) (gk1 hg wg hw) k28 hk29 lo29 (gc_two hg wg hw (by omega) hd2) ff29 (by omega)
  refine v_lvp [0, 4, 2, 1] rfl ?_
  exact L4 (v + 1) v f h hv (gk0 v) hA (fun _ _ => rfl) (fun _ _ => rfl) (fun j h1 h2 => absurd h2 (by omega)) hf (by omega)
set_option maxHeartbeats 4000000 in
set_option maxRecDepth 100000 in
theorem c_J5_append_c97b9 (l : Launch) (hl : l.stackTraces = false) (G : zG) (sb ar cap : Nat) (f : Nat → Int32) (t : List Nat) (v : Nat) (h : zH) (hs : zSB G h sb ar cap f t) (hv : v < 10000000) (hl2 : t.length + sb_dg v ≤ 500) : zMet eR l yJ5_append_c97b9 cJ5_append_c97b9 4 (some (.object "java/lang/AbstractStringBuilder")) 15 1 1000 G [.ref sb, .int (nI v)] h (fun r h2 => r = sb ∧ ∃ ar2 cap2 f2, zSB G h2 sb ar2 cap2 f2 (t ++ dgl v) ∧ zSt h h2 sb ar ar2) := by
  refine con_of hl RJ5 rfl (by decide +kernel) [(0, .ref sb), (1, .int (nI v))] rfl (Nat.le_of_ble_eq_true rfl) ?_
  intro zp ze zs zm zargs zbelow zmeth zc C hr hin Q hQ
  obtain ⟨s1, s2, s3, s4, s5, s6⟩ := id hs
  refine v_aload_n C 0 rfl dJ5_append_c97b9_0 rfl ?_
  refine v_get (v := .int (nI t.length)) C F_J5_79 s1 rfl dJ5_append_c97b9_1 ?_
  refine v_istore_n C [(2, .int (nI t.length)), (0, .ref sb), (1, .int (nI v))] rfl (by decide) dJ5_append_c97b9_4 rfl ?_
  refine v_iload_n C 0 rfl dJ5_append_c97b9_5 rfl ?_
  refine v_iload_n C 2 rfl dJ5_append_c97b9_6 rfl ?_
  refine v_callS (rest := [.int (nI t.length)]) C (c_J6_stringSize_0f7a4 l hl G v h hv) S_J5_245 rfl rfl (Nat.le_of_ble_eq_true rfl) ⟨Nat.le_of_ble_eq_true rfl, Nat.le_of_ble_eq_true rfl⟩ ⟨Nat.le_of_ble_eq_true rfl, Nat.le_of_ble_eq_true rfl⟩ dJ5_append_c97b9_7 (fun i1 h1 q1 => ?_)
  obtain ⟨e1, rfl⟩ := q1; subst e1
  refine v_iadd C dJ5_append_c97b9_10 (v_eqi (nI_add t.length (sb_dg v)) ?_)
  refine v_istore_n C [(3, .int (nI (t.length + (sb_dg v)))), (2, .int (nI t.length)), (0, .ref sb), (1, .int (nI v))] rfl (by decide) dJ5_append_c97b9_11 rfl ?_
  refine v_aload_n C 2 rfl dJ5_append_c97b9_12 rfl ?_
  refine v_iload_n C 0 rfl dJ5_append_c97b9_13 rfl ?_
  refine v_callU (rest := []) C (c_J5_ensureCapacityInternal_d00df l hl G sb ar cap f t (t.length + (sb_dg v)) h hs (by omega)) U_J5_100 s1 rfl rfl (Nat.le_of_ble_eq_true rfl) ⟨Nat.le_of_ble_eq_true rfl, Nat.le_of_ble_eq_true rfl⟩ ⟨Nat.le_of_ble_eq_true rfl, Nat.le_of_ble_eq_true rfl⟩ dJ5_append_c97b9_14 (fun _ h3 w3 => ?_)
  obtain ⟨ar3, cap3, f3, hs3, st3, qc3⟩ := w3
  obtain ⟨s31, s32, s33, s34, s35, s36⟩ := id hs3
  refine v_aload_n C 2 rfl dJ5_append_c97b9_17 rfl ?_
  refine v_callU (rest := []) C (c_J5_isLatin1_aae02 l hl G sb ar3 cap3 f3 t h3 hs3) U_J5_83 s31 rfl rfl (Nat.le_of_ble_eq_true rfl) ⟨Nat.le_of_ble_eq_true rfl, Nat.le_of_ble_eq_true rfl⟩ ⟨Nat.le_of_ble_eq_true rfl, Nat.le_of_ble_eq_true rfl⟩ dJ5_append_c97b9_18 (fun i4 h4 q4 => ?_)
  obtain ⟨e4, rfl⟩ := q4; obtain rfl := e4.symm
  refine v_if_eq (tgt := 37) C dJ5_append_c97b9_21 (by decide) (fun c5 => absurd c5 (by decide)) (fun c5 => ?_)
  refine v_iload_n C 3 rfl dJ5_append_c97b9_24 rfl ?_
  refine v_iload_n C 0 rfl dJ5_append_c97b9_25 rfl ?_
  refine v_aload_n C 2 rfl dJ5_append_c97b9_26 rfl ?_
  refine v_get (v := .ref ar3) C F_J5_15 s31 rfl dJ5_append_c97b9_27 ?_
  refine v_callS (rest := []) C (c_J6_getChars_ba4f3 l hl G v t.length ar3 cap3 f3 h3 s32 (by omega) s36 (by omega) (by omega)) S_J5_248 rfl rfl (Nat.le_of_ble_eq_true rfl) ⟨Nat.le_of_ble_eq_true rfl, Nat.le_of_ble_eq_true rfl⟩ ⟨Nat.le_of_ble_eq_true rfl, Nat.le_of_ble_eq_true rfl⟩ dJ5_append_c97b9_30 (fun i6 h6 w6 => ?_)
  obtain ⟨f6, eh6, lo6, hi6, ft6⟩ := w6
  have k7 : h6 sb = some (.inr (1, [.ref ar3, .int 0, .int 0, .int (nI t.length)])) := by rw [eh6, zup_ne _ _ (zne_io s32 s31)]; exact s31
  have k8 : h6 ar3 = some (.inl (gc G 2, cap3, .inl f6)) := by rw [eh6]; exact zup_self _ _ _
  refine v_pop C dJ5_append_c97b9_33 rfl ?_
  refine v_goto (tgt := 48) C dJ5_append_c97b9_34 (by decide) ?_
  refine v_aload_n C 2 rfl dJ5_append_c97b9_48 rfl ?_
  refine v_iload_n C 0 rfl dJ5_append_c97b9_49 rfl ?_
  refine v_put C [.ref ar3, .int 0, .int 0, .int (nI (t.length + (sb_dg v)))] P_J5_79 k7 rfl rfl rfl (Nat.le_of_ble_eq_true rfl) dJ5_append_c97b9_50 (v_nw (fun h9 eh9 => ?_))
  have k10 : h9 ar3 = some (.inl (gc G 2, cap3, .inl f6)) := by rw [eh9, zup_ne _ _ (zne_oi k7 k8)]; exact k8
  have k11 : h9 sb = some (.inr (1, [.ref ar3, .int 0, .int 0, .int (nI (t.length + (sb_dg v)))])) := by rw [eh9]; exact zup_self _ _ _
  refine v_aload_n C 2 rfl dJ5_append_c97b9_53 rfl ?_
  exact v_aret C hQ hr (Or.inl ⟨_, rfl⟩) (Nat.le_of_ble_eq_true rfl) (Nat.le_of_ble_eq_true rfl) dJ5_append_c97b9_54 ⟨rfl, ar3, cap3, f6, ⟨by rw [List.length_append, dgl_len]; exact k11, k10, by rw [List.length_append, dgl_len]; omega, s34, tbs_app s35 lo6 (fun j hj => by rw [dgl_len] at hj; rw [dgl_get hj]; exact hi6 j hj), ft6⟩, (zSt.put (zSt.put st3 eh6 (Or.inr rfl)) eh9 (Or.inl rfl))⟩
set_option maxHeartbeats 4000000 in
set_option maxRecDepth 100000 in
theorem c_J4_init_da8c8 (l : Launch) (hl : l.stackTraces = false) (G : zG) (sb : Nat) (h : zH) (h0 : h sb = some (.inr (1, [.null, .int 0, .int 0, .int 0]))) : zMet eV l yJ4_init_da8c8 cJ4_init_da8c8 1 none 13 1 16 G [.ref sb] h (fun _ h2 => ∃ ar, zSB G h2 sb ar 16 (fun _ => 0) [] ∧ h ar = none ∧ zKp (fun b => b = sb) h h2) := by
  refine con_of hl RJ4 rfl (by decide +kernel) [(0, .ref sb)] rfl (Nat.le_of_ble_eq_true rfl) ?_
  intro zp ze zs zm zargs zbelow zmeth zc C hr hin Q hQ
  refine v_aload_n C 0 rfl dJ4_init_da8c8_0 rfl ?_
  refine v_bipush (v := 16) C dJ4_init_da8c8_1 (by decide) ?_
  refine v_callI (rest := []) C (c_J5_init_d00df l hl G sb h h0) I_J4_1 rfl rfl (Nat.le_of_ble_eq_true rfl) ⟨Nat.le_of_ble_eq_true rfl, Nat.le_of_ble_eq_true rfl⟩ ⟨Nat.le_of_ble_eq_true rfl, Nat.le_of_ble_eq_true rfl⟩ dJ4_init_da8c8_3 (fun h9 w9 => ?_)
  exact v_vret C hQ hr (Nat.le_of_ble_eq_true rfl) (Nat.le_of_ble_eq_true rfl) dJ4_init_da8c8_6 w9
set_option maxHeartbeats 4000000 in
set_option maxRecDepth 100000 in
theorem c_J4_append_15ec4 (l : Launch) (hl : l.stackTraces = false) (G : zG) (sb ar cap : Nat) (f : Nat → Int32) (t : List Nat) (a b : Nat) (g : Nat → Int32) (s : List Nat) (h : zH) (hs : zSB G h sb ar cap f t) (ht : zTt G h a b g s) (hd : zTn G ar a b g s) (hl2 : t.length + s.length ≤ 500) : zMet eR l yJ4_append_15ec4 cJ4_append_15ec4 2 (some (.object "java/lang/StringBuilder")) 16 1 1000 G [.ref sb, .ref a] h (fun r h2 => r = sb ∧ ∃ ar2 cap2 f2, zSB G h2 sb ar2 cap2 f2 (t ++ s) ∧ zSt h h2 sb ar ar2) := by
  refine con_of hl RJ4 rfl (by decide +kernel) [(0, .ref sb), (1, .ref a)] rfl (Nat.le_of_ble_eq_true rfl) ?_
  intro zp ze zs zm zargs zbelow zmeth zc C hr hin Q hQ
  refine v_aload_n C 0 rfl dJ4_append_15ec4_0 rfl ?_
  refine v_aload_n C 1 rfl dJ4_append_15ec4_1 rfl ?_
  refine v_callSU (rest := []) C (c_J5_append_cf1ce l hl G sb ar cap f t a b g s h hs ht hd hl2) SU_J4_29 hs.1 rfl rfl (Nat.le_of_ble_eq_true rfl) ⟨Nat.le_of_ble_eq_true rfl, Nat.le_of_ble_eq_true rfl⟩ ⟨Nat.le_of_ble_eq_true rfl, Nat.le_of_ble_eq_true rfl⟩ dJ4_append_15ec4_2 (fun r9 h9 w9 => ?_)
  obtain ⟨rfl, ar9, cap9, f9, hs9, st9⟩ := w9
  refine v_pop C dJ4_append_15ec4_5 rfl ?_
  refine v_aload_n C 0 rfl dJ4_append_15ec4_6 rfl ?_
  exact v_aret C hQ hr (Or.inl ⟨_, rfl⟩) (Nat.le_of_ble_eq_true rfl) (Nat.le_of_ble_eq_true rfl) dJ4_append_15ec4_7 ⟨rfl, ar9, cap9, f9, hs9, st9⟩
set_option maxHeartbeats 4000000 in
set_option maxRecDepth 100000 in
theorem c_J4_append_cf468 (l : Launch) (hl : l.stackTraces = false) (G : zG) (sb ar cap : Nat) (f : Nat → Int32) (t : List Nat) (c : Nat) (h : zH) (hs : zSB G h sb ar cap f t) (hc : c < 128) (hl2 : t.length + 1 ≤ 500) : zMet eR l yJ4_append_cf468 cJ4_append_cf468 2 (some (.object "java/lang/StringBuilder")) 16 1 1000 G [.ref sb, .int (nI c)] h (fun r h2 => r = sb ∧ ∃ ar2 cap2 f2, zSB G h2 sb ar2 cap2 f2 (t ++ [c]) ∧ zSt h h2 sb ar ar2) := by
  refine con_of hl RJ4 rfl (by decide +kernel) [(0, .ref sb), (1, .int (nI c))] rfl (Nat.le_of_ble_eq_true rfl) ?_
  intro zp ze zs zm zargs zbelow zmeth zc C hr hin Q hQ
  refine v_aload_n C 0 rfl dJ4_append_cf468_0 rfl ?_
  refine v_iload_n C 1 rfl dJ4_append_cf468_1 rfl ?_
  refine v_callSU (rest := []) C (c_J5_append_3fe6f l hl G sb ar cap f t c h hs hc hl2) SU_J4_50 hs.1 rfl rfl (Nat.le_of_ble_eq_true rfl) ⟨Nat.le_of_ble_eq_true rfl, Nat.le_of_ble_eq_true rfl⟩ ⟨Nat.le_of_ble_eq_true rfl, Nat.le_of_ble_eq_true rfl⟩ dJ4_append_cf468_2 (fun r9 h9 w9 => ?_)
  obtain ⟨rfl, ar9, cap9, f9, hs9, st9⟩ := w9
  refine v_pop C dJ4_append_cf468_5 rfl ?_
  refine v_aload_n C 0 rfl dJ4_append_cf468_6 rfl ?_
  exact v_aret C hQ hr (Or.inl ⟨_, rfl⟩) (Nat.le_of_ble_eq_true rfl) (Nat.le_of_ble_eq_true rfl) dJ4_append_cf468_7 ⟨rfl, ar9, cap9, f9, hs9, st9⟩
set_option maxHeartbeats 4000000 in
set_option maxRecDepth 100000 in
theorem c_J4_append_bf812 (l : Launch) (hl : l.stackTraces = false) (G : zG) (sb ar cap : Nat) (f : Nat → Int32) (t : List Nat) (v : Nat) (h : zH) (hs : zSB G h sb ar cap f t) (hv : v < 10000000) (hl2 : t.length + sb_dg v ≤ 500) : zMet eR l yJ4_append_bf812 cJ4_append_bf812 2 (some (.object "java/lang/StringBuilder")) 16 1 1000 G [.ref sb, .int (nI v)] h (fun r h2 => r = sb ∧ ∃ ar2 cap2 f2, zSB G h2 sb ar2 cap2 f2 (t ++ dgl v) ∧ zSt h h2 sb ar ar2) := by
  refine con_of hl RJ4 rfl (by decide +kernel) [(0, .ref sb), (1, .int (nI v))] rfl (Nat.le_of_ble_eq_true rfl) ?_
  intro zp ze zs zm zargs zbelow zmeth zc C hr hin Q hQ
  refine v_aload_n C 0 rfl dJ4_append_bf812_0 rfl ?_
  refine v_iload_n C 1 rfl dJ4_append_bf812_1 rfl ?_
  refine v_callSU (rest := []) C (c_J5_append_c97b9 l hl G sb ar cap f t v h hs hv hl2) SU_J4_53 hs.1 rfl rfl (Nat.le_of_ble_eq_true rfl) ⟨Nat.le_of_ble_eq_true rfl, Nat.le_of_ble_eq_true rfl⟩ ⟨Nat.le_of_ble_eq_true rfl, Nat.le_of_ble_eq_true rfl⟩ dJ4_append_bf812_2 (fun r9 h9 w9 => ?_)
  obtain ⟨rfl, ar9, cap9, f9, hs9, st9⟩ := w9
  refine v_pop C dJ4_append_bf812_5 rfl ?_
  refine v_aload_n C 0 rfl dJ4_append_bf812_6 rfl ?_
  exact v_aret C hQ hr (Or.inl ⟨_, rfl⟩) (Nat.le_of_ble_eq_true rfl) (Nat.le_of_ble_eq_true rfl) dJ4_append_bf812_7 ⟨rfl, ar9, cap9, f9, hs9, st9⟩
set_option maxHeartbeats 4000000 in
set_option maxRecDepth 100000 in
theorem c_J7_checkLength_df160 (l : Launch) (hl : l.stackTraces = false) (G : zG) (q : Nat) (h : zH) (hq : q < 2 ^ 31) : zMet eV l yJ7_checkLength_df160 cJ7_checkLength_df160 2 none 12 0 0 G [.int 0, .int (nI q)] h (fun _ h2 => h = h2) := by
  refine con_of hl RJ7 rfl (by decide +kernel) [(0, .int 0), (1, .int (nI q))] rfl (Nat.le_of_ble_eq_true rfl) ?_
  intro zp ze zs zm zargs zbelow zmeth zc C hr hin Q hQ
  refine v_iload_n C 1 rfl dJ7_checkLength_df160_0 rfl ?_
  refine v_iload_n C 0 rfl dJ7_checkLength_df160_1 rfl ?_
  refine v_icmp_ge (tgt := 37) C dJ7_checkLength_df160_2 (by decide) (fun c1 => ?_) (fun c1 => absurd ((nk_ge (a := q) (y := 0) 0 (by decide) hq (by decide)).mpr (Nat.zero_le _)) c1)
  have c1 := (nk_ge (a := q) 0 (by decide) (by omega) (by decide)).mp c1
  exact v_vret C hQ hr (Nat.le_of_ble_eq_true rfl) (Nat.le_of_ble_eq_true rfl) dJ7_checkLength_df160_37 rfl
theorem mn_nI2 {a b : Nat} (h : b ≤ a) (ha : a < 2 ^ 31) : (if nI b < nI a then nI b else nI a) = nI b := by
  by_cases q : b < a
  · exact if_pos (nI_lt q ha)
  · have : b = a := by omega
    subst this
    exact ite_self _
theorem nI_sb0 (a : Nat) : nI a - 0 = nI a := Int32.sub_zero _
theorem nn_new {h h1 : zH} {q b : Nat} {e : va_E} (eh : h1 = zup h q e) (hn : h q = none) (hb : h1 b = none) : h b = none := by
  cases hq : h b with
  | none => rfl
  | some x => rw [eh, zup_ne _ _ (zne_new hn hq), hq] at hb; cases hb
theorem nn_put {h h1 : zH} {q b : Nat} {e y : va_E} (eh : h1 = zup h q e) (hy : h q = some y) (hb : h1 b = none) : h b = none := by
  by_cases z : b = q
  · subst z; rw [eh, zup_self] at hb; cases hb
  · rw [eh, zup_ne _ _ z] at hb; exact hb
set_option maxHeartbeats 4000000 in
set_option maxRecDepth 100000 in
theorem c_J7_copyOfRangeByte_39247 (l : Launch) (hl : l.stackTraces = false) (G : zG) (a n q : Nat) (f : Nat → Int32) (h : zH) (hA : h a = some (.inl (gc G 2, n, .inl f))) (hf : sb_Fit f) (hq : q ≤ n) (hn : n ≤ 1000) : zMet eR l yJ7_copyOfRangeByte_39247 cJ7_copyOfRangeByte_39247 5 (some (.array .byte)) 13 1 1000 G [.ref a, .int 0, .int (nI q)] h (fun r h2 => h r = none ∧ gN G ≤ r ∧ zKp (fun _ => False) h h2 ∧ ∃ f2, h2 r = some (.inl (gc G 2, q, .inl f2)) ∧ (∀ j, j < q → f2 j = f j) ∧ sb_Fit f2) := by
  refine con_of hl RJ7 rfl (by decide +kernel) [(0, .ref a), (1, .int 0), (2, .int (nI q))] rfl (Nat.le_of_ble_eq_true rfl) ?_
  intro zp ze zs zm zargs zbelow zmeth zc C hr hin Q hQ
  refine v_iload_n C 1 rfl dJ7_copyOfRangeByte_39247_0 rfl ?_
  refine v_iload_n C 2 rfl dJ7_copyOfRangeByte_39247_1 rfl ?_
  refine v_callS (rest := []) C (c_J7_checkLength_df160 l hl G q h (by omega)) S_J7_343 rfl rfl (Nat.le_of_ble_eq_true rfl) ⟨Nat.le_of_ble_eq_true rfl, Nat.le_of_ble_eq_true rfl⟩ ⟨Nat.le_of_ble_eq_true rfl, Nat.le_of_ble_eq_true rfl⟩ dJ7_copyOfRangeByte_39247_2 (fun _ h1 q1 => ?_)
  subst q1
  refine v_iload_n C 2 rfl dJ7_copyOfRangeByte_39247_5 rfl ?_
  refine v_iload_n C 1 rfl dJ7_copyOfRangeByte_39247_6 rfl ?_
  refine v_isub C dJ7_copyOfRangeByte_39247_7 (v_eqi (y := (nI q)) (nI_sb0 q) ?_)
  refine v_istore_n C [(3, .int (nI q)), (0, .ref a), (1, .int 0), (2, .int (nI q))] rfl (by decide) dJ7_copyOfRangeByte_39247_8 rfl ?_
  refine v_iload_n C 0 rfl dJ7_copyOfRangeByte_39247_9 rfl ?_
  refine v_newa (atype := .byte) (N := q) (z := (q, .inl (fun _ => 0))) C 2 rfl rfl rfl AY_byte (fun cA => rfl) (nI_pos (by omega)) (nI_clamp (by omega)) (by show q * 1 ≤ 536870912; omega) (Nat.le_of_ble_eq_true rfl) (by show 0 + 0 + q ≤ 1000; omega) dJ7_copyOfRangeByte_39247_10 (fun q3 gq3 nq3 => v_nw (fun h3 eh3 => ?_))
  have k4 : h3 a = some (.inl (gc G 2, n, .inl f)) := by rw [eh3, zup_ne _ _ (zne_new nq3 hA)]; exact hA
  have k5 : h3 q3 = some (.inl (gc G 2, q, .inl (fun _ => 0))) := by rw [eh3]; exact zup_self _ _ _
  refine v_astore C [(4, .ref q3), (3, .int (nI q)), (0, .ref a), (1, .int 0), (2, .int (nI q))] rfl (by decide) dJ7_copyOfRangeByte_39247_12 ?_
  refine v_aload_n C 2 rfl dJ7_copyOfRangeByte_39247_14 rfl ?_
  refine v_iload_n C 3 rfl dJ7_copyOfRangeByte_39247_15 rfl ?_
  refine v_aload C 0 rfl dJ7_copyOfRangeByte_39247_16 ?_
  refine v_iconst (v := 0) C dJ7_copyOfRangeByte_39247_18 (by decide) ?_
  refine v_aload_n C 2 rfl dJ7_copyOfRangeByte_39247_19 rfl ?_
  refine v_alen (v := nI n) C 2 rfl k4 rfl dJ7_copyOfRangeByte_39247_20 ?_
  refine v_iload_n C 3 rfl dJ7_copyOfRangeByte_39247_21 rfl ?_
  refine v_isub C dJ7_copyOfRangeByte_39247_22 (v_eqi (y := (nI n)) (nI_sb0 n) ?_)
  refine v_iload_n C 1 rfl dJ7_copyOfRangeByte_39247_23 rfl ?_
  refine v_mmin C MM_J7_304 (Nat.le_of_ble_eq_true rfl) (Nat.le_of_ble_eq_true rfl) (Nat.le_of_ble_eq_true rfl) (by show 0 + 0 + q ≤ 1000; omega) dJ7_copyOfRangeByte_39247_24 (v_topi (fun i7 e7 => ?_))
  subst e7
  refine v_eqi (mn_nI2 (by omega) (by omega)) ?_
  refine v_copyT C AC_J7_150 (Or.inl k4) k5 (by decide) (by decide) (nI_pos (by omega)) (by rw [nI_clamp (by omega), tc0]; omega) (by rw [nI_clamp (by omega), tc0]; omega) (fun _ _ => hf _) (Nat.le_of_ble_eq_true rfl) (Nat.le_of_ble_eq_true rfl) dJ7_copyOfRangeByte_39247_27 (v_nw (fun h8 eh8 => ?_))
  have k9 : h8 a = some (.inl (gc G 2, n, .inl f)) := by rw [eh8, zup_ne _ _ (zne_new nq3 hA)]; exact k4
  have k10 : h8 q3 = some (.inl (gc G 2, q, .inl (va_cpy f (fun _ => 0) (0 : Int32).toNatClampNeg (0 : Int32).toNatClampNeg ((nI q) : Int32).toNatClampNeg))) := by rw [eh8]; exact zup_self _ _ _
  refine v_aload C 0 rfl dJ7_copyOfRangeByte_39247_30 ?_
  exact v_aret C hQ hr (Or.inr ⟨_, rfl⟩) (Nat.le_of_ble_eq_true rfl) (by show 0 + 0 + q ≤ 1000; omega) dJ7_copyOfRangeByte_39247_32 ⟨nq3, gq3, (zk_pub (zk_new (zk_rf _ _) eh3 nq3) eh8 nq3), _, k10, (fun j hj => by rw [nI_clamp (by omega), tc0]; exact cpy_in hj), sb_fitC hf sb_fit0⟩
theorem CLO : zClo RJ7 310 311 := ⟨(zT_of 334 (by decide +kernel) (by decide +kernel)), (zT_of 335 (by decide +kernel) (by decide +kernel)), (zT_of 336 (by decide +kernel) (by decide +kernel)), (zT_of 337 (by decide +kernel) (by decide +kernel)), (zT_of 338 (by decide +kernel) (by decide +kernel)), (zT_of 339 (by decide +kernel) (by decide +kernel)), (zT_of 340 (by decide +kernel) (by decide +kernel))⟩
set_option maxHeartbeats 4000000 in
set_option maxRecDepth 100000 in
theorem c_J7_copyOfRange_39247 (l : Launch) (hl : l.stackTraces = false) (G : zG) (a n q : Nat) (f : Nat → Int32) (h : zH) (hA : h a = some (.inl (gc G 2, n, .inl f))) (hf : sb_Fit f) (hq : q ≤ n) (hn : n ≤ 1000) : zMet eR l yJ7_copyOfRange_39247 cJ7_copyOfRange_39247 3 (some (.array .byte)) 14 1 1000 G [.ref a, .int 0, .int (nI q)] h (fun r h2 => h r = none ∧ gN G ≤ r ∧ zKp (fun _ => False) h h2 ∧ ∃ f2, h2 r = some (.inl (gc G 2, q, .inl f2)) ∧ (∀ j, j < q → f2 j = f j) ∧ sb_Fit f2) := by
  refine con_of hl RJ7 rfl (by decide +kernel) [(0, .ref a), (1, .int 0), (2, .int (nI q))] rfl (Nat.le_of_ble_eq_true rfl) ?_
  intro zp ze zs zm zargs zbelow zmeth zc C hr hin Q hQ
  refine v_iload_n C 1 rfl dJ7_copyOfRange_39247_0 rfl ?_
  refine v_if_ne (tgt := 10) C dJ7_copyOfRange_39247_1 (by decide) (fun c1 => absurd c1 (by decide)) (fun c1 => ?_)
  refine v_iload_n C 2 rfl dJ7_copyOfRange_39247_4 rfl ?_
  refine v_aload_n C 0 rfl dJ7_copyOfRange_39247_5 rfl ?_
  refine v_alen (v := nI n) C 2 rfl hA rfl dJ7_copyOfRange_39247_6 ?_
  refine v_icmp_eq (tgt := 17) C dJ7_copyOfRange_39247_7 (by decide) (fun c2 => ?_) (fun c2 => ?_)
  · have c2 := (nn_eq (a := q) (b := n) (by omega) (by omega)).mp c2
    refine v_aload_n C 0 rfl dJ7_copyOfRange_39247_17 rfl ?_
    refine v_clone C CLO hA hf (Nat.le_of_ble_eq_true rfl) (Nat.le_of_ble_eq_true rfl) (Nat.le_of_ble_eq_true rfl) (by show 0 + n ≤ 1000; omega) dJ7_copyOfRange_39247_18 dJ7_copyOfRange_39247_21 (fun q3 gq3 nq3 => v_nw (fun h3 eh3 => ?_))
    have k4 : h3 a = some (.inl (gc G 2, n, .inl f)) := by rw [eh3, zup_ne _ _ (zne_new nq3 hA)]; exact hA
    have k5 : h3 q3 = some (.inl (gc G 2, n, .inl f)) := by rw [eh3]; exact zup_self _ _ _
    exact v_aret C hQ hr (Or.inr ⟨_, rfl⟩) (Nat.le_of_ble_eq_true rfl) (by first | exact Nat.le_of_ble_eq_true rfl | (show 0 + n ≤ 1000; omega)) dJ7_copyOfRange_39247_24 ⟨nq3, gq3, (zk_new (zk_rf _ _) eh3 nq3), f, (by have : q = n := c2; rw [this]; exact k5), fun _ _ => rfl, hf⟩
  · have c2 := (nn_eq_f (a := q) (b := n) (by omega) (by omega)).mp c2
    refine v_aload_n C 0 rfl dJ7_copyOfRange_39247_10 rfl ?_
    refine v_iload_n C 1 rfl dJ7_copyOfRange_39247_11 rfl ?_
    refine v_iload_n C 2 rfl dJ7_copyOfRange_39247_12 rfl ?_
    refine v_callS (rest := []) C (c_J7_copyOfRangeByte_39247 l hl G a n q f h hA hf hq hn) S_J7_339 rfl rfl (Nat.le_of_ble_eq_true rfl) ⟨Nat.le_of_ble_eq_true rfl, Nat.le_of_ble_eq_true rfl⟩ ⟨Nat.le_of_ble_eq_true rfl, Nat.le_of_ble_eq_true rfl⟩ dJ7_copyOfRange_39247_13 (fun q6 h6 w6 => ?_)
    exact v_aret C hQ hr (Or.inr ⟨_, rfl⟩) (Nat.le_of_ble_eq_true rfl) (by first | exact Nat.le_of_ble_eq_true rfl | (show 0 + n ≤ 1000; omega)) dJ7_copyOfRange_39247_16 w6
set_option maxHeartbeats 4000000 in
set_option maxRecDepth 100000 in
theorem c_J0_init_db425 (l : Launch) (hl : l.stackTraces = false) (G : zG) (qs : Nat) (sb ar cap : Nat) (f : Nat → Int32) (t : List Nat) (h : zH) (hq0 : h qs = some (.inr (0, [.null, .int 0, .int 0, .int 0]))) (hs : zSB G h sb ar cap f t) : zMet eV l yJ0_init_db425 cJ0_init_db425 5 none 15 1 1000 G [.ref qs, .ref sb, .null] h (fun _ h2 => ∃ b g, h2 qs = some (.inr (0, [.ref b, .int 0, .int 0, .int 0])) ∧ h2 b = some (.inl (gc G 2, t.length, .inl g)) ∧ tbs t g ∧ sb_Fit g ∧ h b = none ∧ zKp (fun x => x = qs) h h2) := by
  refine con_of hl RJ0 rfl (by decide +kernel) [(0, .ref qs), (1, .ref sb), (2, .null)] rfl (Nat.le_of_ble_eq_true rfl) ?_
  intro zp ze zs zm zargs zbelow zmeth zc C hr hin Q hQ
  obtain ⟨s1, s2, s3, s4, s5, s6⟩ := id hs
  refine v_aload_n C 0 rfl dJ0_init_db425_0 rfl ?_
  refine v_objInit C O_J0_1 (Nat.le_of_ble_eq_true rfl) (Nat.le_of_ble_eq_true rfl) dJ0_init_db425_1 ?_
  refine v_aload_n C 1 rfl dJ0_init_db425_4 rfl ?_
  refine v_callU (rest := []) C (c_J5_getValue_6d5f1 l hl G sb ar cap f t h hs) U_J0_552 s1 rfl rfl (Nat.le_of_ble_eq_true rfl) ⟨Nat.le_of_ble_eq_true rfl, Nat.le_of_ble_eq_true rfl⟩ ⟨Nat.le_of_ble_eq_true rfl, Nat.le_of_ble_eq_true rfl⟩ dJ0_init_db425_5 (fun i1 h1 q1 => ?_)
  obtain ⟨e1, rfl⟩ := q1; obtain rfl := e1.symm
  refine v_astore_n C [(3, .ref ar), (0, .ref qs), (1, .ref sb), (2, .null)] rfl (by decide) dJ0_init_db425_8 rfl ?_
  refine v_aload_n C 2 rfl dJ0_init_db425_9 rfl ?_
  refine v_callO (rest := []) C (c_J4_length_8abf5 l hl G sb ar cap f t h hs) UO_J0_549 s1 rfl rfl (Nat.le_of_ble_eq_true rfl) ⟨Nat.le_of_ble_eq_true rfl, Nat.le_of_ble_eq_true rfl⟩ ⟨Nat.le_of_ble_eq_true rfl, Nat.le_of_ble_eq_true rfl⟩ dJ0_init_db425_10 (fun i2 h2 q2 => ?_)
  obtain ⟨e2, rfl⟩ := q2; obtain rfl := e2.symm
  refine v_istore C [(4, .int (nI t.length)), (3, .ref ar), (0, .ref qs), (1, .ref sb), (2, .null)] rfl (by decide) dJ0_init_db425_13 ?_
  refine v_aload_n C 3 rfl dJ0_init_db425_15 rfl ?_
  refine v_callU (rest := []) C (c_J5_isLatin1_aae02 l hl G sb ar cap f t h hs) U_J0_1047 s1 rfl rfl (Nat.le_of_ble_eq_true rfl) ⟨Nat.le_of_ble_eq_true rfl, Nat.le_of_ble_eq_true rfl⟩ ⟨Nat.le_of_ble_eq_true rfl, Nat.le_of_ble_eq_true rfl⟩ dJ0_init_db425_16 (fun i3 h3 q3 => ?_)
  obtain ⟨e3, rfl⟩ := q3; obtain rfl := e3.symm
  refine v_if_eq (tgt := 41) C dJ0_init_db425_19 (by decide) (fun c4 => absurd c4 (by decide)) (fun c4 => ?_)
  refine v_aload_n C 2 rfl dJ0_init_db425_22 rfl ?_
  refine v_iconst (v := 0) C dJ0_init_db425_23 (by decide) ?_
  refine v_putF C [.null, .int 0, .int 0, .int 0] P_J0_15 hin hq0 rfl rfl rfl (Nat.le_of_ble_eq_true rfl) dJ0_init_db425_24 (v_nw (fun h5 eh5 => ?_))
  have k6 : h5 sb = some (.inr (1, [.ref ar, .int 0, .int 0, .int (nI t.length)])) := by rw [eh5, zup_ne _ _ (zne_oo hq0 s1 (by decide))]; exact s1
  have k7 : h5 ar = some (.inl (gc G 2, cap, .inl f)) := by rw [eh5, zup_ne _ _ (zne_oi hq0 s2)]; exact s2
  have k8 : h5 qs = some (.inr (0, [.null, .int 0, .int 0, .int 0])) := by rw [eh5]; exact zup_self _ _ _
  refine v_aload_n C 2 rfl dJ0_init_db425_27 rfl ?_
  refine v_aload_n C 1 rfl dJ0_init_db425_28 rfl ?_
  refine v_iconst (v := 0) C dJ0_init_db425_29 (by decide) ?_
  refine v_iload C 0 rfl dJ0_init_db425_30 ?_
  refine v_callS (rest := [.ref qs]) C (c_J7_copyOfRange_39247 l hl G ar cap t.length f h5 k7 s6 s3 s4) S_J0_54 rfl rfl (Nat.le_of_ble_eq_true rfl) ⟨Nat.le_of_ble_eq_true rfl, Nat.le_of_ble_eq_true rfl⟩ ⟨Nat.le_of_ble_eq_true rfl, Nat.le_of_ble_eq_true rfl⟩ dJ0_init_db425_32 (fun q9 h9 w9 => ?_)
  obtain ⟨nq9, gq9, kp9, fc9, hc9, fe9, ff9⟩ := w9
  have k10 : h9 sb = some (.inr (1, [.ref ar, .int 0, .int 0, .int (nI t.length)])) := kp9 _ _ (fun q => q) k6
  have k11 : h9 ar = some (.inl (gc G 2, cap, .inl f)) := kp9 _ _ (fun q => q) k7
  have k12 : h9 qs = some (.inr (0, [.null, .int 0, .int 0, .int 0])) := kp9 _ _ (fun q => q) k8
  refine v_putF C [.ref q9, .int 0, .int 0, .int 0] P_J0_9 hin k12 rfl rfl rfl (Nat.le_of_ble_eq_true rfl) dJ0_init_db425_35 (v_nw (fun h13 eh13 => ?_))
  have k14 : h13 sb = some (.inr (1, [.ref ar, .int 0, .int 0, .int (nI t.length)])) := by rw [eh13, zup_ne _ _ (zne_oo k12 k10 (by decide))]; exact k10
  have k15 : h13 ar = some (.inl (gc G 2, cap, .inl f)) := by rw [eh13, zup_ne _ _ (zne_oi k12 k11)]; exact k11
  have k16 : h13 q9 = some (.inl (gc G 2, t.length, .inl fc9)) := by rw [eh13, zup_ne _ _ (Ne.symm (zne_new nq9 k8))]; exact hc9
  have k17 : h13 qs = some (.inr (0, [.ref q9, .int 0, .int 0, .int 0])) := by rw [eh13]; exact zup_self _ _ _
  refine v_goto (tgt := 97) C dJ0_init_db425_38 (by decide) ?_
  exact v_vret C hQ hr (Nat.le_of_ble_eq_true rfl) (Nat.le_of_ble_eq_true rfl) dJ0_init_db425_97 ⟨q9, fc9, k17, k16, (fun j hj => by rw [fe9 j hj]; exact s5 j hj), ff9, nn_put eh5 hq0 nq9, (zk_put (zk_call (zk_put (zk_rf _ _) eh5 rfl) kp9 (fun _ _ _ _ q => q)) eh13 rfl)⟩
set_option maxHeartbeats 4000000 in
set_option maxRecDepth 100000 in
theorem c_J0_init_81219 (l : Launch) (hl : l.stackTraces = false) (G : zG) (qs : Nat) (sb ar cap : Nat) (f : Nat → Int32) (t : List Nat) (h : zH) (hq0 : h qs = some (.inr (0, [.null, .int 0, .int 0, .int 0]))) (hs : zSB G h sb ar cap f t) : zMet eV l yJ0_init_81219 cJ0_init_81219 2 none 16 1 1000 G [.ref qs, .ref sb] h (fun _ h2 => ∃ b g, h2 qs = some (.inr (0, [.ref b, .int 0, .int 0, .int 0])) ∧ h2 b = some (.inl (gc G 2, t.length, .inl g)) ∧ tbs t g ∧ sb_Fit g ∧ h b = none ∧ zKp (fun x => x = qs) h h2) := by
  refine con_of hl RJ0 rfl (by decide +kernel) [(0, .ref qs), (1, .ref sb)] rfl (Nat.le_of_ble_eq_true rfl) ?_
  intro zp ze zs zm zargs zbelow zmeth zc C hr hin Q hQ
  refine v_aload_n C 0 rfl dJ0_init_81219_0 rfl ?_
  refine v_aload_n C 1 rfl dJ0_init_81219_1 rfl ?_
  refine v_null C dJ0_init_81219_2 ?_
  refine v_callI (rest := []) C (c_J0_init_db425 l hl G qs sb ar cap f t h hq0 hs) I_J0_489 rfl rfl (Nat.le_of_ble_eq_true rfl) ⟨Nat.le_of_ble_eq_true rfl, Nat.le_of_ble_eq_true rfl⟩ ⟨Nat.le_of_ble_eq_true rfl, Nat.le_of_ble_eq_true rfl⟩ dJ0_init_81219_3 (fun h1 w1 => ?_)
  exact v_vret C hQ hr (Nat.le_of_ble_eq_true rfl) (Nat.le_of_ble_eq_true rfl) dJ0_init_81219_6 w1
set_option maxHeartbeats 4000000 in
set_option maxRecDepth 100000 in
theorem c_J4_toString_0e30d (l : Launch) (hl : l.stackTraces = false) (G : zG) (sb ar cap : Nat) (f : Nat → Int32) (t : List Nat) (h : zH) (hs : zSB G h sb ar cap f t) : zMet eR l yJ4_toString_0e30d cJ4_toString_0e30d 1 (some (.object "java/lang/String")) 17 2 1004 G [.ref sb] h (fun r h2 => ∃ b g, h2 r = some (.inr (0, [.ref b, .int 0, .int 0, .int 0])) ∧ h2 b = some (.inl (gc G 2, t.length, .inl g)) ∧ tbs t g ∧ sb_Fit g ∧ h b = none ∧ h r = none ∧ zKp (fun _ => False) h h2) := by
  refine con_of hl RJ4 rfl (by decide +kernel) [(0, .ref sb)] rfl (Nat.le_of_ble_eq_true rfl) ?_
  intro zp ze zs zm zargs zbelow zmeth zc C hr hin Q hQ
  refine v_new C N_J4_18 (Nat.le_of_ble_eq_true rfl) (Nat.le_of_ble_eq_true rfl) dJ4_toString_0e30d_0 (fun q1 gq1 nq1 => v_nw (fun h1 eh1 => ?_))
  have k2 : h1 sb = some (.inr (1, [.ref ar, .int 0, .int 0, .int (nI t.length)])) := by rw [eh1, zup_ne _ _ (zne_new nq1 hs.1)]; exact hs.1
  have k3 : h1 ar = some (.inl (gc G 2, cap, .inl f)) := by rw [eh1, zup_ne _ _ (zne_new nq1 hs.2.1)]; exact hs.2.1
  have k4 : h1 q1 = some (.inr (0, [.null, .int 0, .int 0, .int 0])) := by rw [eh1]; exact zup_self _ _ _
  refine v_dup C dJ4_toString_0e30d_3 rfl ?_
  refine v_aload_n C 0 rfl dJ4_toString_0e30d_4 rfl ?_
  refine v_callI (rest := [.ref q1]) C (c_J0_init_81219 l hl G q1 sb ar cap f t h1 k4 ⟨k2, k3, hs.2.2⟩) I_J4_137 rfl rfl (Nat.le_of_ble_eq_true rfl) ⟨Nat.le_of_ble_eq_true rfl, Nat.le_of_ble_eq_true rfl⟩ ⟨Nat.le_of_ble_eq_true rfl, Nat.le_of_ble_eq_true rfl⟩ dJ4_toString_0e30d_5 (fun h5 w5 => ?_)
  obtain ⟨b5, g5, sa5, sb5, tb5, ft5, nb5, kp5⟩ := w5
  exact v_aret C hQ hr (Or.inl ⟨_, rfl⟩) (Nat.le_of_ble_eq_true rfl) (Nat.le_of_ble_eq_true rfl) dJ4_toString_0e30d_8 ⟨b5, g5, sa5, sb5, tb5, ft5, nn_new eh1 nq1 nb5, nq1, zk_call (zk_new (zk_rf _ _) eh1 nq1) kp5 (fun b e hb _ q => by rw [q, nq1] at hb; cases hb)⟩

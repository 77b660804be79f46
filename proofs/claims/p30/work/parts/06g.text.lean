/-! texts that are made -/
def BS (G : zG) (h0 h : zH) (sb ar cap : Nat) (f : Nat → Int32) (t : List Nat) : Prop := zSB G h sb ar cap f t ∧ zKp (fun _ => False) h0 h ∧ h0 sb = none ∧ h0 ar = none
theorem knone {h0 h : zH} {a : Nat} (k : zKp (fun _ => False) h0 h) (ha : h a = none) : h0 a = none := by
  cases hh : h0 a with
  | none => rfl
  | some e => have := k a e id hh; rw [ha] at this; cases this
theorem BS.step {G : zG} {h0 h h2 : zH} {sb ar cap ar2 cap2 : Nat} {f f2 : Nat → Int32} {t t2 : List Nat} (b : BS G h0 h sb ar cap f t) (s2 : zSB G h2 sb ar2 cap2 f2 t2) (st : zSt h h2 sb ar ar2) : BS G h0 h2 sb ar2 cap2 f2 t2 := by
  obtain ⟨b1, b2, b3, b4⟩ := b
  refine ⟨s2, zk_call b2 st.1 (fun b e hb _ z => ?_), b3, ?_⟩
  · rcases z with z | z
    · rw [z, b3] at hb; cases hb
    · rw [z, b4] at hb; cases hb
  · rcases st.2 with z | z
    · rw [z]; exact b4
    · exact knone b2 z
theorem BS.init {G : zG} {h0 h1 h : zH} {sb ar : Nat} {e : va_E} (eh : h1 = zup h0 sb e) (hn : h0 sb = none) (s2 : zSB G h sb ar 16 (fun _ => 0) []) (ha : h1 ar = none) (kp : zKp (fun b => b = sb) h1 h) : BS G h0 h sb ar 16 (fun _ => 0) [] := by
  have k0 : zKp (fun _ => False) h0 h1 := zk_new (zk_rf _ _) eh hn
  refine ⟨s2, zk_call k0 kp (fun b e hb _ z => by rw [z, hn] at hb; cases hb), hn, knone k0 ha⟩
theorem BS.txt {G : zG} {h0 h : zH} {sb ar cap : Nat} {f : Nat → Int32} {t : List Nat} (b : BS G h0 h sb ar cap f t) {a c : Nat} {g : Nat → Int32} {s : List Nat} (ht : zTt G h0 a c g s) (hc : h0 c = some (.inl (gc G 2, s.length, .inl g))) : zTt G h a c g s ∧ zTn G ar a c g s := ⟨ht.ext (fun a e he => b.2.1 a e id he), Or.inr (zne_new b.2.2.2 hc)⟩
/-- a text in the heap -/
def hTx (G : zG) (h : zH) (a b : Nat) (f : Nat → Int32) (t : List Nat) : Prop := h a = some (.inr (0, [.ref b, .int 0, .int 0, .int 0])) ∧ h b = some (.inl (gc G 2, t.length, .inl f)) ∧ tbs t f ∧ asc t ∧ sb_Fit f
theorem hTx.tt {G : zG} {h : zH} {a b : Nat} {f : Nat → Int32} {t : List Nat} (x : hTx G h a b f t) : zTt G h a b f t := ⟨Or.inl ⟨x.1, x.2.1⟩, x.2.2.1, x.2.2.2.1, x.2.2.2.2⟩
def TxPost (G : zG) (h h2 : zH) (r : Nat) (t : List Nat) : Prop := h r = none ∧ zKp (fun _ => False) h h2 ∧ ∃ b g, h b = none ∧ h2 r = some (.inr (0, [.ref b, .int 0, .int 0, .int 0])) ∧ h2 b = some (.inl (gc G 2, t.length, .inl g)) ∧ tbs t g ∧ sb_Fit g
theorem TxPost.of {G : zG} {h0 h h2 : zH} {sb ar cap r : Nat} {f : Nat → Int32} {t : List Nat} (b : BS G h0 h sb ar cap f t) (p : ∃ c g, h2 r = some (.inr (0, [.ref c, .int 0, .int 0, .int 0])) ∧ h2 c = some (.inl (gc G 2, t.length, .inl g)) ∧ tbs t g ∧ sb_Fit g ∧ h c = none ∧ h r = none ∧ zKp (fun _ => False) h h2) : TxPost G h0 h2 r t := by
  obtain ⟨c, g, p1, p2, p3, p4, p5, p6, p7⟩ := p
  exact ⟨knone b.2.1 p6, zk_call b.2.1 p7 (fun _ _ _ h => h), c, g, knone b.2.1 p5, p1, p2, p3, p4⟩
set_option maxHeartbeats 4000000 in
set_option maxRecDepth 100000 in
theorem c_X4_numbered_A (l : Launch) (hl : l.stackTraces = false) (G : zG) (v : Nat)  (h : zH) (hv : v ≤ 1000000) : zMet eR l yX4_numbered cX4_numbered 3 (some (.object "java/lang/String")) 18 6 3024 G [.ref (gs G 71), .int (nI v)] h (fun r h2 => TxPost G h h2 r ([65] ++ dgl v)) := by
  refine con_of hl RX4 rfl (by decide +kernel) [(0, .ref (gs G 71)), (1, .int (nI v))] rfl (Nat.le_of_ble_eq_true rfl) ?_
  intro zp ze zs zm zargs zbelow zmeth zc C hr hin Q hQ
  have hv7 := dg_le7 hv
  refine v_new C N_X4_159 (Nat.le_of_ble_eq_true rfl) (Nat.le_of_ble_eq_true rfl) dX4_numbered_0 (fun q1 gq1 nq1 => v_nw (fun h1 eh1 => ?_))
  have k2 : h1 q1 = some (.inr (1, [.null, .int 0, .int 0, .int 0])) := by rw [eh1]; exact zup_self _ _ _
  refine v_dup C dX4_numbered_3 rfl ?_
  refine v_callI (rest := [.ref q1]) C (c_J4_init_da8c8 l hl G q1 h1 k2) I_X4_161 rfl rfl (Nat.le_of_ble_eq_true rfl) ⟨Nat.le_of_ble_eq_true rfl, Nat.le_of_ble_eq_true rfl⟩ ⟨Nat.le_of_ble_eq_true rfl, Nat.le_of_ble_eq_true rfl⟩ dX4_numbered_4 (fun h3 w3 => ?_)
  obtain ⟨ar3, sb3, na3, kp3⟩ := w3
  have bs3 := BS.init eh1 nq1 sb3 na3 kp3
  refine v_astore_n C [(2, .ref q1), (0, .ref (gs G 71)), (1, .int (nI v))] rfl (by decide) dX4_numbered_7 rfl ?_
  refine v_aload_n C 0 rfl dX4_numbered_8 rfl ?_
  refine v_aload_n C 1 rfl dX4_numbered_9 rfl ?_
  refine v_callV (rest := []) C (c_J4_append_15ec4 l hl G q1 ar3 16 (fun _ => 0) ([]) (gs G 71) (gb G 71) _ [65] h3 bs3.1 (zTt.con (q := (71, [65])) (by decide)) (Or.inl (fun h' => (zTt.con (h := h') (q := (71, [65])) (by decide)))) (by simp only [List.length_append, List.length_cons, List.length_nil, dgl_len]; omega)) K_X4_162 bs3.1.1 rfl rfl (Nat.le_of_ble_eq_true rfl) ⟨Nat.le_of_ble_eq_true rfl, Nat.le_of_ble_eq_true rfl⟩ ⟨Nat.le_of_ble_eq_true rfl, Nat.le_of_ble_eq_true rfl⟩ dX4_numbered_10 (fun q4 h4 w4 => ?_)
  obtain ⟨eq4, ar4, cap4, f4, sb4, zs4⟩ := w4; have eqs4 := eq4.symm; subst eqs4
  have bs4 := bs3.step sb4 zs4
  refine v_iload_n C 2 rfl dX4_numbered_13 rfl ?_
  refine v_callV (rest := []) C (c_J4_append_bf812 l hl G q1 ar4 cap4 f4 ([] ++ [65]) v h4 bs4.1 (by omega) (by simp only [List.length_append, List.length_cons, List.length_nil, dgl_len]; omega)) K_X4_166 bs4.1.1 rfl rfl (Nat.le_of_ble_eq_true rfl) ⟨Nat.le_of_ble_eq_true rfl, Nat.le_of_ble_eq_true rfl⟩ ⟨Nat.le_of_ble_eq_true rfl, Nat.le_of_ble_eq_true rfl⟩ dX4_numbered_14 (fun q5 h5 w5 => ?_)
  obtain ⟨eq5, ar5, cap5, f5, sb5, zs5⟩ := w5; have eqs5 := eq5.symm; subst eqs5
  have bs5 := bs4.step sb5 zs5
  refine v_pop C dX4_numbered_17 rfl ?_
  refine v_aload_n C 0 rfl dX4_numbered_18 rfl ?_
  refine v_callV (rest := []) C (c_J4_toString_0e30d l hl G q1 ar5 cap5 f5 (([] ++ [65]) ++ dgl v) h5 bs5.1) K_X4_169 bs5.1.1 rfl rfl (Nat.le_of_ble_eq_true rfl) ⟨Nat.le_of_ble_eq_true rfl, Nat.le_of_ble_eq_true rfl⟩ ⟨Nat.le_of_ble_eq_true rfl, Nat.le_of_ble_eq_true rfl⟩ dX4_numbered_19 (fun r6 h6 w6 => ?_)
  have tp6 := TxPost.of bs5 w6
  exact v_aret C hQ hr (Or.inl ⟨_, rfl⟩) (Nat.le_of_ble_eq_true rfl) (Nat.le_of_ble_eq_true rfl) dX4_numbered_22 (by rw [show [65] ++ dgl v = (([] ++ [65]) ++ dgl v) from rfl]; exact tp6)
set_option maxHeartbeats 4000000 in
set_option maxRecDepth 100000 in
theorem c_X4_numbered_T (l : Launch) (hl : l.stackTraces = false) (G : zG) (v : Nat)  (h : zH) (hv : v ≤ 1000000) : zMet eR l yX4_numbered cX4_numbered 3 (some (.object "java/lang/String")) 18 6 3024 G [.ref (gs G 111), .int (nI v)] h (fun r h2 => TxPost G h h2 r ([84] ++ dgl v)) := by
  refine con_of hl RX4 rfl (by decide +kernel) [(0, .ref (gs G 111)), (1, .int (nI v))] rfl (Nat.le_of_ble_eq_true rfl) ?_
  intro zp ze zs zm zargs zbelow zmeth zc C hr hin Q hQ
  have hv7 := dg_le7 hv
  refine v_new C N_X4_159 (Nat.le_of_ble_eq_true rfl) (Nat.le_of_ble_eq_true rfl) dX4_numbered_0 (fun q1 gq1 nq1 => v_nw (fun h1 eh1 => ?_))
  have k2 : h1 q1 = some (.inr (1, [.null, .int 0, .int 0, .int 0])) := by rw [eh1]; exact zup_self _ _ _
  refine v_dup C dX4_numbered_3 rfl ?_
  refine v_callI (rest := [.ref q1]) C (c_J4_init_da8c8 l hl G q1 h1 k2) I_X4_161 rfl rfl (Nat.le_of_ble_eq_true rfl) ⟨Nat.le_of_ble_eq_true rfl, Nat.le_of_ble_eq_true rfl⟩ ⟨Nat.le_of_ble_eq_true rfl, Nat.le_of_ble_eq_true rfl⟩ dX4_numbered_4 (fun h3 w3 => ?_)
  obtain ⟨ar3, sb3, na3, kp3⟩ := w3
  have bs3 := BS.init eh1 nq1 sb3 na3 kp3
  refine v_astore_n C [(2, .ref q1), (0, .ref (gs G 111)), (1, .int (nI v))] rfl (by decide) dX4_numbered_7 rfl ?_
  refine v_aload_n C 0 rfl dX4_numbered_8 rfl ?_
  refine v_aload_n C 1 rfl dX4_numbered_9 rfl ?_
  refine v_callV (rest := []) C (c_J4_append_15ec4 l hl G q1 ar3 16 (fun _ => 0) ([]) (gs G 111) (gb G 111) _ [84] h3 bs3.1 (zTt.con (q := (111, [84])) (by decide)) (Or.inl (fun h' => (zTt.con (h := h') (q := (111, [84])) (by decide)))) (by simp only [List.length_append, List.length_cons, List.length_nil, dgl_len]; omega)) K_X4_162 bs3.1.1 rfl rfl (Nat.le_of_ble_eq_true rfl) ⟨Nat.le_of_ble_eq_true rfl, Nat.le_of_ble_eq_true rfl⟩ ⟨Nat.le_of_ble_eq_true rfl, Nat.le_of_ble_eq_true rfl⟩ dX4_numbered_10 (fun q4 h4 w4 => ?_)
  obtain ⟨eq4, ar4, cap4, f4, sb4, zs4⟩ := w4; have eqs4 := eq4.symm; subst eqs4
  have bs4 := bs3.step sb4 zs4
  refine v_iload_n C 2 rfl dX4_numbered_13 rfl ?_
  refine v_callV (rest := []) C (c_J4_append_bf812 l hl G q1 ar4 cap4 f4 ([] ++ [84]) v h4 bs4.1 (by omega) (by simp only [List.length_append, List.length_cons, List.length_nil, dgl_len]; omega)) K_X4_166 bs4.1.1 rfl rfl (Nat.le_of_ble_eq_true rfl) ⟨Nat.le_of_ble_eq_true rfl, Nat.le_of_ble_eq_true rfl⟩ ⟨Nat.le_of_ble_eq_true rfl, Nat.le_of_ble_eq_true rfl⟩ dX4_numbered_14 (fun q5 h5 w5 => ?_)
  obtain ⟨eq5, ar5, cap5, f5, sb5, zs5⟩ := w5; have eqs5 := eq5.symm; subst eqs5
  have bs5 := bs4.step sb5 zs5
  refine v_pop C dX4_numbered_17 rfl ?_
  refine v_aload_n C 0 rfl dX4_numbered_18 rfl ?_
  refine v_callV (rest := []) C (c_J4_toString_0e30d l hl G q1 ar5 cap5 f5 (([] ++ [84]) ++ dgl v) h5 bs5.1) K_X4_169 bs5.1.1 rfl rfl (Nat.le_of_ble_eq_true rfl) ⟨Nat.le_of_ble_eq_true rfl, Nat.le_of_ble_eq_true rfl⟩ ⟨Nat.le_of_ble_eq_true rfl, Nat.le_of_ble_eq_true rfl⟩ dX4_numbered_19 (fun r6 h6 w6 => ?_)
  have tp6 := TxPost.of bs5 w6
  exact v_aret C hQ hr (Or.inl ⟨_, rfl⟩) (Nat.le_of_ble_eq_true rfl) (Nat.le_of_ble_eq_true rfl) dX4_numbered_22 (by rw [show [84] ++ dgl v = (([] ++ [84]) ++ dgl v) from rfl]; exact tp6)
set_option maxHeartbeats 4000000 in
set_option maxRecDepth 100000 in
theorem c_X4_numbered_0 (l : Launch) (hl : l.stackTraces = false) (G : zG) (v : Nat)  (h : zH) (hv : v ≤ 1000000) : zMet eR l yX4_numbered cX4_numbered 3 (some (.object "java/lang/String")) 18 6 3024 G [.ref (gs G 92), .int (nI v)] h (fun r h2 => TxPost G h h2 r (dgl v)) := by
  refine con_of hl RX4 rfl (by decide +kernel) [(0, .ref (gs G 92)), (1, .int (nI v))] rfl (Nat.le_of_ble_eq_true rfl) ?_
  intro zp ze zs zm zargs zbelow zmeth zc C hr hin Q hQ
  have hv7 := dg_le7 hv
  refine v_new C N_X4_159 (Nat.le_of_ble_eq_true rfl) (Nat.le_of_ble_eq_true rfl) dX4_numbered_0 (fun q1 gq1 nq1 => v_nw (fun h1 eh1 => ?_))
  have k2 : h1 q1 = some (.inr (1, [.null, .int 0, .int 0, .int 0])) := by rw [eh1]; exact zup_self _ _ _
  refine v_dup C dX4_numbered_3 rfl ?_
  refine v_callI (rest := [.ref q1]) C (c_J4_init_da8c8 l hl G q1 h1 k2) I_X4_161 rfl rfl (Nat.le_of_ble_eq_true rfl) ⟨Nat.le_of_ble_eq_true rfl, Nat.le_of_ble_eq_true rfl⟩ ⟨Nat.le_of_ble_eq_true rfl, Nat.le_of_ble_eq_true rfl⟩ dX4_numbered_4 (fun h3 w3 => ?_)
  obtain ⟨ar3, sb3, na3, kp3⟩ := w3
  have bs3 := BS.init eh1 nq1 sb3 na3 kp3
  refine v_astore_n C [(2, .ref q1), (0, .ref (gs G 92)), (1, .int (nI v))] rfl (by decide) dX4_numbered_7 rfl ?_
  refine v_aload_n C 0 rfl dX4_numbered_8 rfl ?_
  refine v_aload_n C 1 rfl dX4_numbered_9 rfl ?_
  refine v_callV (rest := []) C (c_J4_append_15ec4 l hl G q1 ar3 16 (fun _ => 0) ([]) (gs G 92) (gb G 92) _ [] h3 bs3.1 (zTt.con (q := (92, [])) (by decide)) (Or.inl (fun h' => (zTt.con (h := h') (q := (92, [])) (by decide)))) (by simp only [List.length_append, List.length_cons, List.length_nil, dgl_len]; omega)) K_X4_162 bs3.1.1 rfl rfl (Nat.le_of_ble_eq_true rfl) ⟨Nat.le_of_ble_eq_true rfl, Nat.le_of_ble_eq_true rfl⟩ ⟨Nat.le_of_ble_eq_true rfl, Nat.le_of_ble_eq_true rfl⟩ dX4_numbered_10 (fun q4 h4 w4 => ?_)
  obtain ⟨eq4, ar4, cap4, f4, sb4, zs4⟩ := w4; have eqs4 := eq4.symm; subst eqs4
  have bs4 := bs3.step sb4 zs4
  refine v_iload_n C 2 rfl dX4_numbered_13 rfl ?_
  refine v_callV (rest := []) C (c_J4_append_bf812 l hl G q1 ar4 cap4 f4 ([] ++ []) v h4 bs4.1 (by omega) (by simp only [List.length_append, List.length_cons, List.length_nil, dgl_len]; omega)) K_X4_166 bs4.1.1 rfl rfl (Nat.le_of_ble_eq_true rfl) ⟨Nat.le_of_ble_eq_true rfl, Nat.le_of_ble_eq_true rfl⟩ ⟨Nat.le_of_ble_eq_true rfl, Nat.le_of_ble_eq_true rfl⟩ dX4_numbered_14 (fun q5 h5 w5 => ?_)
  obtain ⟨eq5, ar5, cap5, f5, sb5, zs5⟩ := w5; have eqs5 := eq5.symm; subst eqs5
  have bs5 := bs4.step sb5 zs5
  refine v_pop C dX4_numbered_17 rfl ?_
  refine v_aload_n C 0 rfl dX4_numbered_18 rfl ?_
  refine v_callV (rest := []) C (c_J4_toString_0e30d l hl G q1 ar5 cap5 f5 (([] ++ []) ++ dgl v) h5 bs5.1) K_X4_169 bs5.1.1 rfl rfl (Nat.le_of_ble_eq_true rfl) ⟨Nat.le_of_ble_eq_true rfl, Nat.le_of_ble_eq_true rfl⟩ ⟨Nat.le_of_ble_eq_true rfl, Nat.le_of_ble_eq_true rfl⟩ dX4_numbered_19 (fun r6 h6 w6 => ?_)
  have tp6 := TxPost.of bs5 w6
  exact v_aret C hQ hr (Or.inl ⟨_, rfl⟩) (Nat.le_of_ble_eq_true rfl) (Nat.le_of_ble_eq_true rfl) dX4_numbered_22 (by rw [show dgl v = (([] ++ []) ++ dgl v) from rfl]; exact tp6)
set_option maxHeartbeats 4000000 in
set_option maxRecDepth 100000 in
theorem c_X4_shareText (l : Launch) (hl : l.stackTraces = false) (G : zG) (v : Nat) (a1 b1 : Nat) (f1 : Nat → Int32) (s1 : List Nat)  (h : zH) (hv : v ≤ 100) (ht1 : hTx G h a1 b1 f1 s1) (hs1 : s1.length ≤ 441) : zMet eR l yX4_shareText cX4_shareText 3 (some (.object "java/lang/String")) 18 7 4024 G [.int (nI v), .ref a1] h (fun r h2 => TxPost G h h2 r (dgl v ++ [37, 32, 111, 102, 32] ++ s1)) := by
  refine con_of hl RX4 rfl (by decide +kernel) [(0, .int (nI v)), (1, .ref a1)] rfl (Nat.le_of_ble_eq_true rfl) ?_
  intro zp ze zs zm zargs zbelow zmeth zc C hr hin Q hQ
  have hv7 := dg_le3 hv
  refine v_new C N_X4_159 (Nat.le_of_ble_eq_true rfl) (Nat.le_of_ble_eq_true rfl) dX4_shareText_0 (fun q1 gq1 nq1 => v_nw (fun h1 eh1 => ?_))
  have k2 : h1 q1 = some (.inr (1, [.null, .int 0, .int 0, .int 0])) := by rw [eh1]; exact zup_self _ _ _
  refine v_dup C dX4_shareText_3 rfl ?_
  refine v_callI (rest := [.ref q1]) C (c_J4_init_da8c8 l hl G q1 h1 k2) I_X4_161 rfl rfl (Nat.le_of_ble_eq_true rfl) ⟨Nat.le_of_ble_eq_true rfl, Nat.le_of_ble_eq_true rfl⟩ ⟨Nat.le_of_ble_eq_true rfl, Nat.le_of_ble_eq_true rfl⟩ dX4_shareText_4 (fun h3 w3 => ?_)
  obtain ⟨ar3, sb3, na3, kp3⟩ := w3
  have bs3 := BS.init eh1 nq1 sb3 na3 kp3
  refine v_astore_n C [(2, .ref q1), (0, .int (nI v)), (1, .ref a1)] rfl (by decide) dX4_shareText_7 rfl ?_
  refine v_aload_n C 0 rfl dX4_shareText_8 rfl ?_
  refine v_iload_n C 1 rfl dX4_shareText_9 rfl ?_
  refine v_callV (rest := []) C (c_J4_append_bf812 l hl G q1 ar3 16 (fun _ => 0) ([]) v h3 bs3.1 (by omega) (by simp only [List.length_append, List.length_cons, List.length_nil, dgl_len]; omega)) K_X4_166 bs3.1.1 rfl rfl (Nat.le_of_ble_eq_true rfl) ⟨Nat.le_of_ble_eq_true rfl, Nat.le_of_ble_eq_true rfl⟩ ⟨Nat.le_of_ble_eq_true rfl, Nat.le_of_ble_eq_true rfl⟩ dX4_shareText_10 (fun q4 h4 w4 => ?_)
  obtain ⟨eq4, ar4, cap4, f4, sb4, zs4⟩ := w4; have eqs4 := eq4.symm; subst eqs4
  have bs4 := bs3.step sb4 zs4
  refine v_ldcS (tx := "% of ") C rfl (by decide) dX4_shareText_13 ?_
  refine v_callV (rest := []) C (c_J4_append_15ec4 l hl G q1 ar4 cap4 f4 ([] ++ dgl v) (gs G 186) (gb G 186) _ [37, 32, 111, 102, 32] h4 bs4.1 (zTt.con (q := (186, [37, 32, 111, 102, 32])) (by decide)) (Or.inl (fun h' => (zTt.con (h := h') (q := (186, [37, 32, 111, 102, 32])) (by decide)))) (by simp only [List.length_append, List.length_cons, List.length_nil, dgl_len]; omega)) K_X4_162 bs4.1.1 rfl rfl (Nat.le_of_ble_eq_true rfl) ⟨Nat.le_of_ble_eq_true rfl, Nat.le_of_ble_eq_true rfl⟩ ⟨Nat.le_of_ble_eq_true rfl, Nat.le_of_ble_eq_true rfl⟩ dX4_shareText_15 (fun q5 h5 w5 => ?_)
  obtain ⟨eq5, ar5, cap5, f5, sb5, zs5⟩ := w5; have eqs5 := eq5.symm; subst eqs5
  have bs5 := bs4.step sb5 zs5
  refine v_aload_n C 2 rfl dX4_shareText_18 rfl ?_
  refine v_callV (rest := []) C (c_J4_append_15ec4 l hl G q1 ar5 cap5 f5 (([] ++ dgl v) ++ [37, 32, 111, 102, 32]) a1 b1 f1 s1 h5 bs5.1 (bs5.txt ht1.tt ht1.2.1).1 (bs5.txt ht1.tt ht1.2.1).2 (by simp only [List.length_append, List.length_cons, List.length_nil, dgl_len]; omega)) K_X4_162 bs5.1.1 rfl rfl (Nat.le_of_ble_eq_true rfl) ⟨Nat.le_of_ble_eq_true rfl, Nat.le_of_ble_eq_true rfl⟩ ⟨Nat.le_of_ble_eq_true rfl, Nat.le_of_ble_eq_true rfl⟩ dX4_shareText_19 (fun q6 h6 w6 => ?_)
  obtain ⟨eq6, ar6, cap6, f6, sb6, zs6⟩ := w6; have eqs6 := eq6.symm; subst eqs6
  have bs6 := bs5.step sb6 zs6
  refine v_pop C dX4_shareText_22 rfl ?_
  refine v_aload_n C 0 rfl dX4_shareText_23 rfl ?_
  refine v_callV (rest := []) C (c_J4_toString_0e30d l hl G q1 ar6 cap6 f6 ((([] ++ dgl v) ++ [37, 32, 111, 102, 32]) ++ s1) h6 bs6.1) K_X4_169 bs6.1.1 rfl rfl (Nat.le_of_ble_eq_true rfl) ⟨Nat.le_of_ble_eq_true rfl, Nat.le_of_ble_eq_true rfl⟩ ⟨Nat.le_of_ble_eq_true rfl, Nat.le_of_ble_eq_true rfl⟩ dX4_shareText_24 (fun r7 h7 w7 => ?_)
  have tp7 := TxPost.of bs6 w7
  exact v_aret C hQ hr (Or.inl ⟨_, rfl⟩) (Nat.le_of_ble_eq_true rfl) (Nat.le_of_ble_eq_true rfl) dX4_shareText_27 (by rw [show dgl v ++ [37, 32, 111, 102, 32] ++ s1 = ((([] ++ dgl v) ++ [37, 32, 111, 102, 32]) ++ s1) from rfl]; exact tp7)
set_option maxHeartbeats 4000000 in
set_option maxRecDepth 100000 in
theorem c_X4_yearText (l : Launch) (hl : l.stackTraces = false) (G : zG) (a1 b1 : Nat) (f1 : Nat → Int32) (s1 : List Nat)  (h : zH) (ht1 : hTx G h a1 b1 f1 s1) (hs1 : s1.length ≤ 441) : zMet eR l yX4_yearText cX4_yearText 2 (some (.object "java/lang/String")) 18 7 4024 G [.ref a1] h (fun r h2 => TxPost G h h2 r ([121, 101, 97, 114, 40] ++ s1 ++ [41])) := by
  refine con_of hl RX4 rfl (by decide +kernel) [(0, .ref a1)] rfl (Nat.le_of_ble_eq_true rfl) ?_
  intro zp ze zs zm zargs zbelow zmeth zc C hr hin Q hQ
  refine v_new C N_X4_159 (Nat.le_of_ble_eq_true rfl) (Nat.le_of_ble_eq_true rfl) dX4_yearText_0 (fun q1 gq1 nq1 => v_nw (fun h1 eh1 => ?_))
  have k2 : h1 q1 = some (.inr (1, [.null, .int 0, .int 0, .int 0])) := by rw [eh1]; exact zup_self _ _ _
  refine v_dup C dX4_yearText_3 rfl ?_
  refine v_callI (rest := [.ref q1]) C (c_J4_init_da8c8 l hl G q1 h1 k2) I_X4_161 rfl rfl (Nat.le_of_ble_eq_true rfl) ⟨Nat.le_of_ble_eq_true rfl, Nat.le_of_ble_eq_true rfl⟩ ⟨Nat.le_of_ble_eq_true rfl, Nat.le_of_ble_eq_true rfl⟩ dX4_yearText_4 (fun h3 w3 => ?_)
  obtain ⟨ar3, sb3, na3, kp3⟩ := w3
  have bs3 := BS.init eh1 nq1 sb3 na3 kp3
  refine v_astore_n C [(1, .ref q1), (0, .ref a1)] rfl (by decide) dX4_yearText_7 rfl ?_
  refine v_aload_n C 0 rfl dX4_yearText_8 rfl ?_
  refine v_ldcS (tx := "year(") C rfl (by decide) dX4_yearText_9 ?_
  refine v_callV (rest := []) C (c_J4_append_15ec4 l hl G q1 ar3 16 (fun _ => 0) ([]) (gs G 188) (gb G 188) _ [121, 101, 97, 114, 40] h3 bs3.1 (zTt.con (q := (188, [121, 101, 97, 114, 40])) (by decide)) (Or.inl (fun h' => (zTt.con (h := h') (q := (188, [121, 101, 97, 114, 40])) (by decide)))) (by simp only [List.length_append, List.length_cons, List.length_nil, dgl_len]; omega)) K_X4_162 bs3.1.1 rfl rfl (Nat.le_of_ble_eq_true rfl) ⟨Nat.le_of_ble_eq_true rfl, Nat.le_of_ble_eq_true rfl⟩ ⟨Nat.le_of_ble_eq_true rfl, Nat.le_of_ble_eq_true rfl⟩ dX4_yearText_11 (fun q4 h4 w4 => ?_)
  obtain ⟨eq4, ar4, cap4, f4, sb4, zs4⟩ := w4; have eqs4 := eq4.symm; subst eqs4
  have bs4 := bs3.step sb4 zs4
  refine v_aload_n C 1 rfl dX4_yearText_14 rfl ?_
  refine v_callV (rest := []) C (c_J4_append_15ec4 l hl G q1 ar4 cap4 f4 ([] ++ [121, 101, 97, 114, 40]) a1 b1 f1 s1 h4 bs4.1 (bs4.txt ht1.tt ht1.2.1).1 (bs4.txt ht1.tt ht1.2.1).2 (by simp only [List.length_append, List.length_cons, List.length_nil, dgl_len]; omega)) K_X4_162 bs4.1.1 rfl rfl (Nat.le_of_ble_eq_true rfl) ⟨Nat.le_of_ble_eq_true rfl, Nat.le_of_ble_eq_true rfl⟩ ⟨Nat.le_of_ble_eq_true rfl, Nat.le_of_ble_eq_true rfl⟩ dX4_yearText_15 (fun q5 h5 w5 => ?_)
  obtain ⟨eq5, ar5, cap5, f5, sb5, zs5⟩ := w5; have eqs5 := eq5.symm; subst eqs5
  have bs5 := bs4.step sb5 zs5
  refine v_bipush (v := 41) C dX4_yearText_18 (by decide) ?_
  refine v_callV (rest := []) C (c_J4_append_cf468 l hl G q1 ar5 cap5 f5 (([] ++ [121, 101, 97, 114, 40]) ++ s1) 41 h5 bs5.1 (by decide) (by simp only [List.length_append, List.length_cons, List.length_nil, dgl_len]; omega)) K_X4_177 bs5.1.1 rfl rfl (Nat.le_of_ble_eq_true rfl) ⟨Nat.le_of_ble_eq_true rfl, Nat.le_of_ble_eq_true rfl⟩ ⟨Nat.le_of_ble_eq_true rfl, Nat.le_of_ble_eq_true rfl⟩ dX4_yearText_20 (fun q6 h6 w6 => ?_)
  obtain ⟨eq6, ar6, cap6, f6, sb6, zs6⟩ := w6; have eqs6 := eq6.symm; subst eqs6
  have bs6 := bs5.step sb6 zs6
  refine v_pop C dX4_yearText_23 rfl ?_
  refine v_aload_n C 0 rfl dX4_yearText_24 rfl ?_
  refine v_callV (rest := []) C (c_J4_toString_0e30d l hl G q1 ar6 cap6 f6 ((([] ++ [121, 101, 97, 114, 40]) ++ s1) ++ [41]) h6 bs6.1) K_X4_169 bs6.1.1 rfl rfl (Nat.le_of_ble_eq_true rfl) ⟨Nat.le_of_ble_eq_true rfl, Nat.le_of_ble_eq_true rfl⟩ ⟨Nat.le_of_ble_eq_true rfl, Nat.le_of_ble_eq_true rfl⟩ dX4_yearText_25 (fun r7 h7 w7 => ?_)
  have tp7 := TxPost.of bs6 w7
  exact v_aret C hQ hr (Or.inl ⟨_, rfl⟩) (Nat.le_of_ble_eq_true rfl) (Nat.le_of_ble_eq_true rfl) dX4_yearText_28 (by rw [show [121, 101, 97, 114, 40] ++ s1 ++ [41] = ((([] ++ [121, 101, 97, 114, 40]) ++ s1) ++ [41]) from rfl]; exact tp7)
set_option maxHeartbeats 4000000 in
set_option maxRecDepth 100000 in
theorem c_X4_joinText (l : Launch) (hl : l.stackTraces = false) (G : zG) (kd : Nat) (a1 b1 : Nat) (f1 : Nat → Int32) (s1 : List Nat) (a2 b2 : Nat) (f2 : Nat → Int32) (s2 : List Nat)  (h : zH) (hk4 : kd < 4) (ht1 : hTx G h a1 b1 f1 s1) (ht2 : hTx G h a2 b2 f2 s2) (hs12 : s1.length + s2.length ≤ 480) : zMet eR l yX4_joinText cX4_joinText 4 (some (.object "java/lang/String")) 18 10 7024 G [.int (nI kd), .ref a1, .ref a2] h (fun r h2 => TxPost G h h2 r (sjt kd s1 s2)) := by
  refine con_of hl RX4 rfl (by decide +kernel) [(0, .int (nI kd)), (1, .ref a1), (2, .ref a2)] rfl (Nat.le_of_ble_eq_true rfl) ?_
  intro zp ze zs zm zargs zbelow zmeth zc C hr hin Q hQ
  refine v_new C N_X4_159 (Nat.le_of_ble_eq_true rfl) (Nat.le_of_ble_eq_true rfl) dX4_joinText_0 (fun q1 gq1 nq1 => v_nw (fun h1 eh1 => ?_))
  have k2 : h1 q1 = some (.inr (1, [.null, .int 0, .int 0, .int 0])) := by rw [eh1]; exact zup_self _ _ _
  refine v_dup C dX4_joinText_3 rfl ?_
  refine v_callI (rest := [.ref q1]) C (c_J4_init_da8c8 l hl G q1 h1 k2) I_X4_161 rfl rfl (Nat.le_of_ble_eq_true rfl) ⟨Nat.le_of_ble_eq_true rfl, Nat.le_of_ble_eq_true rfl⟩ ⟨Nat.le_of_ble_eq_true rfl, Nat.le_of_ble_eq_true rfl⟩ dX4_joinText_4 (fun h3 w3 => ?_)
  obtain ⟨ar3, sb3, na3, kp3⟩ := w3
  have bs3 := BS.init eh1 nq1 sb3 na3 kp3
  refine v_astore_n C [(3, .ref q1), (0, .int (nI kd)), (1, .ref a1), (2, .ref a2)] rfl (by decide) dX4_joinText_7 rfl ?_
  refine v_iload_n C 1 rfl dX4_joinText_8 rfl ?_
  refine v_iconst (v := 2) C dX4_joinText_9 (by decide) ?_
  refine v_icmp_ne (tgt := 23) C dX4_joinText_10 (by decide) (fun c4 => ?_) (fun c4 => ?_)
  · have c4 := (nk_ne (a := kd) 2 (by decide) (by omega) (by decide)).mp c4
    refine v_iload_n C 1 rfl dX4_joinText_23 rfl ?_
    refine v_iconst (v := 3) C dX4_joinText_24 (by decide) ?_
    refine v_icmp_ne (tgt := 35) C dX4_joinText_25 (by decide) (fun c5 => ?_) (fun c5 => ?_)
    · have c5 := (nk_ne (a := kd) 3 (by decide) (by omega) (by decide)).mp c5
      refine v_aload_n C 0 rfl dX4_joinText_35 rfl ?_
      refine v_bipush (v := 40) C dX4_joinText_36 (by decide) ?_
      refine v_callV (rest := []) C (c_J4_append_cf468 l hl G q1 ar3 16 (fun _ => 0) ([]) 40 h3 bs3.1 (by decide) (by simp only [List.length_append, List.length_cons, List.length_nil, dgl_len]; omega)) K_X4_177 bs3.1.1 rfl rfl (Nat.le_of_ble_eq_true rfl) ⟨Nat.le_of_ble_eq_true rfl, Nat.le_of_ble_eq_true rfl⟩ ⟨Nat.le_of_ble_eq_true rfl, Nat.le_of_ble_eq_true rfl⟩ dX4_joinText_38 (fun q6 h6 w6 => ?_)
      obtain ⟨eq6, ar6, cap6, f6, sb6, zs6⟩ := w6; have eqs6 := eq6.symm; subst eqs6
      have bs6 := bs3.step sb6 zs6
      refine v_aload_n C 2 rfl dX4_joinText_41 rfl ?_
      refine v_callV (rest := []) C (c_J4_append_15ec4 l hl G q1 ar6 cap6 f6 ([] ++ [40]) a1 b1 f1 s1 h6 bs6.1 (bs6.txt ht1.tt ht1.2.1).1 (bs6.txt ht1.tt ht1.2.1).2 (by simp only [List.length_append, List.length_cons, List.length_nil, dgl_len]; omega)) K_X4_162 bs6.1.1 rfl rfl (Nat.le_of_ble_eq_true rfl) ⟨Nat.le_of_ble_eq_true rfl, Nat.le_of_ble_eq_true rfl⟩ ⟨Nat.le_of_ble_eq_true rfl, Nat.le_of_ble_eq_true rfl⟩ dX4_joinText_42 (fun q7 h7 w7 => ?_)
      obtain ⟨eq7, ar7, cap7, f7, sb7, zs7⟩ := w7; have eqs7 := eq7.symm; subst eqs7
      have bs7 := bs6.step sb7 zs7
      refine v_pop C dX4_joinText_45 rfl ?_
      refine v_iload_n C 1 rfl dX4_joinText_46 rfl ?_
      refine v_if_ne (tgt := 60) C dX4_joinText_47 (by decide) (fun c8 => ?_) (fun c8 => ?_)
      · have c8 := (nk_ne (a := kd) 0 (by decide) (by omega) (by decide)).mp c8
        refine v_iload_n C 1 rfl dX4_joinText_60 rfl ?_
        refine v_iconst (v := 1) C dX4_joinText_61 (by decide) ?_
        refine v_icmp_ne (tgt := 75) C dX4_joinText_62 (by decide) (fun c9 => ?_) (fun c9 => ?_)
        · have c9 := (nk_ne (a := kd) 1 (by decide) (by omega) (by decide)).mp c9
          refine v_aload_n C 0 rfl dX4_joinText_75 rfl ?_
          refine v_ldcS (tx := ", ") C rfl (by decide) dX4_joinText_76 ?_
          refine v_callV (rest := []) C (c_J4_append_15ec4 l hl G q1 ar7 cap7 f7 (([] ++ [40]) ++ s1) (gs G 184) (gb G 184) _ [44, 32] h7 bs7.1 (zTt.con (q := (184, [44, 32])) (by decide)) (Or.inl (fun h' => (zTt.con (h := h') (q := (184, [44, 32])) (by decide)))) (by simp only [List.length_append, List.length_cons, List.length_nil, dgl_len]; omega)) K_X4_162 bs7.1.1 rfl rfl (Nat.le_of_ble_eq_true rfl) ⟨Nat.le_of_ble_eq_true rfl, Nat.le_of_ble_eq_true rfl⟩ ⟨Nat.le_of_ble_eq_true rfl, Nat.le_of_ble_eq_true rfl⟩ dX4_joinText_78 (fun q10 h10 w10 => ?_)
          obtain ⟨eq10, ar10, cap10, f10, sb10, zs10⟩ := w10; have eqs10 := eq10.symm; subst eqs10
          have bs10 := bs7.step sb10 zs10
          refine v_pop C dX4_joinText_81 rfl ?_
          refine v_aload_n C 0 rfl dX4_joinText_82 rfl ?_
          refine v_aload_n C 3 rfl dX4_joinText_83 rfl ?_
          refine v_callV (rest := []) C (c_J4_append_15ec4 l hl G q1 ar10 cap10 f10 ((([] ++ [40]) ++ s1) ++ [44, 32]) a2 b2 f2 s2 h10 bs10.1 (bs10.txt ht2.tt ht2.2.1).1 (bs10.txt ht2.tt ht2.2.1).2 (by simp only [List.length_append, List.length_cons, List.length_nil, dgl_len]; omega)) K_X4_162 bs10.1.1 rfl rfl (Nat.le_of_ble_eq_true rfl) ⟨Nat.le_of_ble_eq_true rfl, Nat.le_of_ble_eq_true rfl⟩ ⟨Nat.le_of_ble_eq_true rfl, Nat.le_of_ble_eq_true rfl⟩ dX4_joinText_84 (fun q11 h11 w11 => ?_)
          obtain ⟨eq11, ar11, cap11, f11, sb11, zs11⟩ := w11; have eqs11 := eq11.symm; subst eqs11
          have bs11 := bs10.step sb11 zs11
          refine v_bipush (v := 41) C dX4_joinText_87 (by decide) ?_
          refine v_callV (rest := []) C (c_J4_append_cf468 l hl G q1 ar11 cap11 f11 (((([] ++ [40]) ++ s1) ++ [44, 32]) ++ s2) 41 h11 bs11.1 (by decide) (by simp only [List.length_append, List.length_cons, List.length_nil, dgl_len]; omega)) K_X4_177 bs11.1.1 rfl rfl (Nat.le_of_ble_eq_true rfl) ⟨Nat.le_of_ble_eq_true rfl, Nat.le_of_ble_eq_true rfl⟩ ⟨Nat.le_of_ble_eq_true rfl, Nat.le_of_ble_eq_true rfl⟩ dX4_joinText_89 (fun q12 h12 w12 => ?_)
          obtain ⟨eq12, ar12, cap12, f12, sb12, zs12⟩ := w12; have eqs12 := eq12.symm; subst eqs12
          have bs12 := bs11.step sb12 zs12
          refine v_pop C dX4_joinText_92 rfl ?_
          refine v_aload_n C 0 rfl dX4_joinText_93 rfl ?_
          refine v_callV (rest := []) C (c_J4_toString_0e30d l hl G q1 ar12 cap12 f12 ((((([] ++ [40]) ++ s1) ++ [44, 32]) ++ s2) ++ [41]) h12 bs12.1) K_X4_169 bs12.1.1 rfl rfl (Nat.le_of_ble_eq_true rfl) ⟨Nat.le_of_ble_eq_true rfl, Nat.le_of_ble_eq_true rfl⟩ ⟨Nat.le_of_ble_eq_true rfl, Nat.le_of_ble_eq_true rfl⟩ dX4_joinText_94 (fun r13 h13 w13 => ?_)
          have tp13 := TxPost.of bs12 w13
          exact v_aret C hQ hr (Or.inl ⟨_, rfl⟩) (Nat.le_of_ble_eq_true rfl) (Nat.le_of_ble_eq_true rfl) dX4_joinText_97 (by rw [show sjt kd s1 s2 = ((((([] ++ [40]) ++ s1) ++ [44, 32]) ++ s2) ++ [41]) from (by first | (exfalso; omega) | (unfold sjt; simp [c4, c5, c8, c9, List.append_assoc]))]; exact tp13)
        · have c9 := (nk_ne_f (a := kd) 1 (by decide) (by omega) (by decide)).mp c9
          refine v_aload_n C 0 rfl dX4_joinText_65 rfl ?_
          refine v_ldcS (tx := " - ") C rfl (by decide) dX4_joinText_66 ?_
          refine v_callV (rest := []) C (c_J4_append_15ec4 l hl G q1 ar7 cap7 f7 (([] ++ [40]) ++ s1) (gs G 182) (gb G 182) _ [32, 45, 32] h7 bs7.1 (zTt.con (q := (182, [32, 45, 32])) (by decide)) (Or.inl (fun h' => (zTt.con (h := h') (q := (182, [32, 45, 32])) (by decide)))) (by simp only [List.length_append, List.length_cons, List.length_nil, dgl_len]; omega)) K_X4_162 bs7.1.1 rfl rfl (Nat.le_of_ble_eq_true rfl) ⟨Nat.le_of_ble_eq_true rfl, Nat.le_of_ble_eq_true rfl⟩ ⟨Nat.le_of_ble_eq_true rfl, Nat.le_of_ble_eq_true rfl⟩ dX4_joinText_68 (fun q14 h14 w14 => ?_)
          obtain ⟨eq14, ar14, cap14, f14, sb14, zs14⟩ := w14; have eqs14 := eq14.symm; subst eqs14
          have bs14 := bs7.step sb14 zs14
          refine v_pop C dX4_joinText_71 rfl ?_
          refine v_goto (tgt := 82) C dX4_joinText_72 (by decide) ?_
          refine v_aload_n C 0 rfl dX4_joinText_82 rfl ?_
          refine v_aload_n C 3 rfl dX4_joinText_83 rfl ?_
          refine v_callV (rest := []) C (c_J4_append_15ec4 l hl G q1 ar14 cap14 f14 ((([] ++ [40]) ++ s1) ++ [32, 45, 32]) a2 b2 f2 s2 h14 bs14.1 (bs14.txt ht2.tt ht2.2.1).1 (bs14.txt ht2.tt ht2.2.1).2 (by simp only [List.length_append, List.length_cons, List.length_nil, dgl_len]; omega)) K_X4_162 bs14.1.1 rfl rfl (Nat.le_of_ble_eq_true rfl) ⟨Nat.le_of_ble_eq_true rfl, Nat.le_of_ble_eq_true rfl⟩ ⟨Nat.le_of_ble_eq_true rfl, Nat.le_of_ble_eq_true rfl⟩ dX4_joinText_84 (fun q15 h15 w15 => ?_)
          obtain ⟨eq15, ar15, cap15, f15, sb15, zs15⟩ := w15; have eqs15 := eq15.symm; subst eqs15
          have bs15 := bs14.step sb15 zs15
          refine v_bipush (v := 41) C dX4_joinText_87 (by decide) ?_
          refine v_callV (rest := []) C (c_J4_append_cf468 l hl G q1 ar15 cap15 f15 (((([] ++ [40]) ++ s1) ++ [32, 45, 32]) ++ s2) 41 h15 bs15.1 (by decide) (by simp only [List.length_append, List.length_cons, List.length_nil, dgl_len]; omega)) K_X4_177 bs15.1.1 rfl rfl (Nat.le_of_ble_eq_true rfl) ⟨Nat.le_of_ble_eq_true rfl, Nat.le_of_ble_eq_true rfl⟩ ⟨Nat.le_of_ble_eq_true rfl, Nat.le_of_ble_eq_true rfl⟩ dX4_joinText_89 (fun q16 h16 w16 => ?_)
          obtain ⟨eq16, ar16, cap16, f16, sb16, zs16⟩ := w16; have eqs16 := eq16.symm; subst eqs16
          have bs16 := bs15.step sb16 zs16
          refine v_pop C dX4_joinText_92 rfl ?_
          refine v_aload_n C 0 rfl dX4_joinText_93 rfl ?_
          refine v_callV (rest := []) C (c_J4_toString_0e30d l hl G q1 ar16 cap16 f16 ((((([] ++ [40]) ++ s1) ++ [32, 45, 32]) ++ s2) ++ [41]) h16 bs16.1) K_X4_169 bs16.1.1 rfl rfl (Nat.le_of_ble_eq_true rfl) ⟨Nat.le_of_ble_eq_true rfl, Nat.le_of_ble_eq_true rfl⟩ ⟨Nat.le_of_ble_eq_true rfl, Nat.le_of_ble_eq_true rfl⟩ dX4_joinText_94 (fun r17 h17 w17 => ?_)
          have tp17 := TxPost.of bs16 w17
          exact v_aret C hQ hr (Or.inl ⟨_, rfl⟩) (Nat.le_of_ble_eq_true rfl) (Nat.le_of_ble_eq_true rfl) dX4_joinText_97 (by rw [show sjt kd s1 s2 = ((((([] ++ [40]) ++ s1) ++ [32, 45, 32]) ++ s2) ++ [41]) from (by first | (exfalso; omega) | (unfold sjt; simp [c4, c5, c8, c9, List.append_assoc]))]; exact tp17)
      · have c8 := (nk_ne_f (a := kd) 0 (by decide) (by omega) (by decide)).mp c8
        refine v_aload_n C 0 rfl dX4_joinText_50 rfl ?_
        refine v_ldcS (tx := " + ") C rfl (by decide) dX4_joinText_51 ?_
        refine v_callV (rest := []) C (c_J4_append_15ec4 l hl G q1 ar7 cap7 f7 (([] ++ [40]) ++ s1) (gs G 180) (gb G 180) _ [32, 43, 32] h7 bs7.1 (zTt.con (q := (180, [32, 43, 32])) (by decide)) (Or.inl (fun h' => (zTt.con (h := h') (q := (180, [32, 43, 32])) (by decide)))) (by simp only [List.length_append, List.length_cons, List.length_nil, dgl_len]; omega)) K_X4_162 bs7.1.1 rfl rfl (Nat.le_of_ble_eq_true rfl) ⟨Nat.le_of_ble_eq_true rfl, Nat.le_of_ble_eq_true rfl⟩ ⟨Nat.le_of_ble_eq_true rfl, Nat.le_of_ble_eq_true rfl⟩ dX4_joinText_53 (fun q18 h18 w18 => ?_)
        obtain ⟨eq18, ar18, cap18, f18, sb18, zs18⟩ := w18; have eqs18 := eq18.symm; subst eqs18
        have bs18 := bs7.step sb18 zs18
        refine v_pop C dX4_joinText_56 rfl ?_
        refine v_goto (tgt := 82) C dX4_joinText_57 (by decide) ?_
        refine v_aload_n C 0 rfl dX4_joinText_82 rfl ?_
        refine v_aload_n C 3 rfl dX4_joinText_83 rfl ?_
        refine v_callV (rest := []) C (c_J4_append_15ec4 l hl G q1 ar18 cap18 f18 ((([] ++ [40]) ++ s1) ++ [32, 43, 32]) a2 b2 f2 s2 h18 bs18.1 (bs18.txt ht2.tt ht2.2.1).1 (bs18.txt ht2.tt ht2.2.1).2 (by simp only [List.length_append, List.length_cons, List.length_nil, dgl_len]; omega)) K_X4_162 bs18.1.1 rfl rfl (Nat.le_of_ble_eq_true rfl) ⟨Nat.le_of_ble_eq_true rfl, Nat.le_of_ble_eq_true rfl⟩ ⟨Nat.le_of_ble_eq_true rfl, Nat.le_of_ble_eq_true rfl⟩ dX4_joinText_84 (fun q19 h19 w19 => ?_)
        obtain ⟨eq19, ar19, cap19, f19, sb19, zs19⟩ := w19; have eqs19 := eq19.symm; subst eqs19
        have bs19 := bs18.step sb19 zs19
        refine v_bipush (v := 41) C dX4_joinText_87 (by decide) ?_
        refine v_callV (rest := []) C (c_J4_append_cf468 l hl G q1 ar19 cap19 f19 (((([] ++ [40]) ++ s1) ++ [32, 43, 32]) ++ s2) 41 h19 bs19.1 (by decide) (by simp only [List.length_append, List.length_cons, List.length_nil, dgl_len]; omega)) K_X4_177 bs19.1.1 rfl rfl (Nat.le_of_ble_eq_true rfl) ⟨Nat.le_of_ble_eq_true rfl, Nat.le_of_ble_eq_true rfl⟩ ⟨Nat.le_of_ble_eq_true rfl, Nat.le_of_ble_eq_true rfl⟩ dX4_joinText_89 (fun q20 h20 w20 => ?_)
        obtain ⟨eq20, ar20, cap20, f20, sb20, zs20⟩ := w20; have eqs20 := eq20.symm; subst eqs20
        have bs20 := bs19.step sb20 zs20
        refine v_pop C dX4_joinText_92 rfl ?_
        refine v_aload_n C 0 rfl dX4_joinText_93 rfl ?_
        refine v_callV (rest := []) C (c_J4_toString_0e30d l hl G q1 ar20 cap20 f20 ((((([] ++ [40]) ++ s1) ++ [32, 43, 32]) ++ s2) ++ [41]) h20 bs20.1) K_X4_169 bs20.1.1 rfl rfl (Nat.le_of_ble_eq_true rfl) ⟨Nat.le_of_ble_eq_true rfl, Nat.le_of_ble_eq_true rfl⟩ ⟨Nat.le_of_ble_eq_true rfl, Nat.le_of_ble_eq_true rfl⟩ dX4_joinText_94 (fun r21 h21 w21 => ?_)
        have tp21 := TxPost.of bs20 w21
        exact v_aret C hQ hr (Or.inl ⟨_, rfl⟩) (Nat.le_of_ble_eq_true rfl) (Nat.le_of_ble_eq_true rfl) dX4_joinText_97 (by rw [show sjt kd s1 s2 = ((((([] ++ [40]) ++ s1) ++ [32, 43, 32]) ++ s2) ++ [41]) from (by first | (exfalso; omega) | (unfold sjt; simp [c4, c5, c8, List.append_assoc]))]; exact tp21)
    · have c5 := (nk_ne_f (a := kd) 3 (by decide) (by omega) (by decide)).mp c5
      refine v_aload_n C 0 rfl dX4_joinText_28 rfl ?_
      refine v_ldcS (tx := "max") C rfl (by decide) dX4_joinText_29 ?_
      refine v_callV (rest := []) C (c_J4_append_15ec4 l hl G q1 ar3 16 (fun _ => 0) ([]) (gs G 175) (gb G 175) _ [109, 97, 120] h3 bs3.1 (zTt.con (q := (175, [109, 97, 120])) (by decide)) (Or.inl (fun h' => (zTt.con (h := h') (q := (175, [109, 97, 120])) (by decide)))) (by simp only [List.length_append, List.length_cons, List.length_nil, dgl_len]; omega)) K_X4_162 bs3.1.1 rfl rfl (Nat.le_of_ble_eq_true rfl) ⟨Nat.le_of_ble_eq_true rfl, Nat.le_of_ble_eq_true rfl⟩ ⟨Nat.le_of_ble_eq_true rfl, Nat.le_of_ble_eq_true rfl⟩ dX4_joinText_31 (fun q22 h22 w22 => ?_)
      obtain ⟨eq22, ar22, cap22, f22, sb22, zs22⟩ := w22; have eqs22 := eq22.symm; subst eqs22
      have bs22 := bs3.step sb22 zs22
      refine v_pop C dX4_joinText_34 rfl ?_
      refine v_aload_n C 0 rfl dX4_joinText_35 rfl ?_
      refine v_bipush (v := 40) C dX4_joinText_36 (by decide) ?_
      refine v_callV (rest := []) C (c_J4_append_cf468 l hl G q1 ar22 cap22 f22 ([] ++ [109, 97, 120]) 40 h22 bs22.1 (by decide) (by simp only [List.length_append, List.length_cons, List.length_nil, dgl_len]; omega)) K_X4_177 bs22.1.1 rfl rfl (Nat.le_of_ble_eq_true rfl) ⟨Nat.le_of_ble_eq_true rfl, Nat.le_of_ble_eq_true rfl⟩ ⟨Nat.le_of_ble_eq_true rfl, Nat.le_of_ble_eq_true rfl⟩ dX4_joinText_38 (fun q23 h23 w23 => ?_)
      obtain ⟨eq23, ar23, cap23, f23, sb23, zs23⟩ := w23; have eqs23 := eq23.symm; subst eqs23
      have bs23 := bs22.step sb23 zs23
      refine v_aload_n C 2 rfl dX4_joinText_41 rfl ?_
      refine v_callV (rest := []) C (c_J4_append_15ec4 l hl G q1 ar23 cap23 f23 (([] ++ [109, 97, 120]) ++ [40]) a1 b1 f1 s1 h23 bs23.1 (bs23.txt ht1.tt ht1.2.1).1 (bs23.txt ht1.tt ht1.2.1).2 (by simp only [List.length_append, List.length_cons, List.length_nil, dgl_len]; omega)) K_X4_162 bs23.1.1 rfl rfl (Nat.le_of_ble_eq_true rfl) ⟨Nat.le_of_ble_eq_true rfl, Nat.le_of_ble_eq_true rfl⟩ ⟨Nat.le_of_ble_eq_true rfl, Nat.le_of_ble_eq_true rfl⟩ dX4_joinText_42 (fun q24 h24 w24 => ?_)
      obtain ⟨eq24, ar24, cap24, f24, sb24, zs24⟩ := w24; have eqs24 := eq24.symm; subst eqs24
      have bs24 := bs23.step sb24 zs24
      refine v_pop C dX4_joinText_45 rfl ?_
      refine v_iload_n C 1 rfl dX4_joinText_46 rfl ?_
      refine v_if_ne (tgt := 60) C dX4_joinText_47 (by decide) (fun c25 => ?_) (fun c25 => ?_)
      · have c25 := (nk_ne (a := kd) 0 (by decide) (by omega) (by decide)).mp c25
        refine v_iload_n C 1 rfl dX4_joinText_60 rfl ?_
        refine v_iconst (v := 1) C dX4_joinText_61 (by decide) ?_
        refine v_icmp_ne (tgt := 75) C dX4_joinText_62 (by decide) (fun c26 => ?_) (fun c26 => ?_)
        · have c26 := (nk_ne (a := kd) 1 (by decide) (by omega) (by decide)).mp c26
          refine v_aload_n C 0 rfl dX4_joinText_75 rfl ?_
          refine v_ldcS (tx := ", ") C rfl (by decide) dX4_joinText_76 ?_
          refine v_callV (rest := []) C (c_J4_append_15ec4 l hl G q1 ar24 cap24 f24 ((([] ++ [109, 97, 120]) ++ [40]) ++ s1) (gs G 184) (gb G 184) _ [44, 32] h24 bs24.1 (zTt.con (q := (184, [44, 32])) (by decide)) (Or.inl (fun h' => (zTt.con (h := h') (q := (184, [44, 32])) (by decide)))) (by simp only [List.length_append, List.length_cons, List.length_nil, dgl_len]; omega)) K_X4_162 bs24.1.1 rfl rfl (Nat.le_of_ble_eq_true rfl) ⟨Nat.le_of_ble_eq_true rfl, Nat.le_of_ble_eq_true rfl⟩ ⟨Nat.le_of_ble_eq_true rfl, Nat.le_of_ble_eq_true rfl⟩ dX4_joinText_78 (fun q27 h27 w27 => ?_)
          obtain ⟨eq27, ar27, cap27, f27, sb27, zs27⟩ := w27; have eqs27 := eq27.symm; subst eqs27
          have bs27 := bs24.step sb27 zs27
          refine v_pop C dX4_joinText_81 rfl ?_
          refine v_aload_n C 0 rfl dX4_joinText_82 rfl ?_
          refine v_aload_n C 3 rfl dX4_joinText_83 rfl ?_
          refine v_callV (rest := []) C (c_J4_append_15ec4 l hl G q1 ar27 cap27 f27 (((([] ++ [109, 97, 120]) ++ [40]) ++ s1) ++ [44, 32]) a2 b2 f2 s2 h27 bs27.1 (bs27.txt ht2.tt ht2.2.1).1 (bs27.txt ht2.tt ht2.2.1).2 (by simp only [List.length_append, List.length_cons, List.length_nil, dgl_len]; omega)) K_X4_162 bs27.1.1 rfl rfl (Nat.le_of_ble_eq_true rfl) ⟨Nat.le_of_ble_eq_true rfl, Nat.le_of_ble_eq_true rfl⟩ ⟨Nat.le_of_ble_eq_true rfl, Nat.le_of_ble_eq_true rfl⟩ dX4_joinText_84 (fun q28 h28 w28 => ?_)
          obtain ⟨eq28, ar28, cap28, f28, sb28, zs28⟩ := w28; have eqs28 := eq28.symm; subst eqs28
          have bs28 := bs27.step sb28 zs28
          refine v_bipush (v := 41) C dX4_joinText_87 (by decide) ?_
          refine v_callV (rest := []) C (c_J4_append_cf468 l hl G q1 ar28 cap28 f28 ((((([] ++ [109, 97, 120]) ++ [40]) ++ s1) ++ [44, 32]) ++ s2) 41 h28 bs28.1 (by decide) (by simp only [List.length_append, List.length_cons, List.length_nil, dgl_len]; omega)) K_X4_177 bs28.1.1 rfl rfl (Nat.le_of_ble_eq_true rfl) ⟨Nat.le_of_ble_eq_true rfl, Nat.le_of_ble_eq_true rfl⟩ ⟨Nat.le_of_ble_eq_true rfl, Nat.le_of_ble_eq_true rfl⟩ dX4_joinText_89 (fun q29 h29 w29 => ?_)
          obtain ⟨eq29, ar29, cap29, f29, sb29, zs29⟩ := w29; have eqs29 := eq29.symm; subst eqs29
          have bs29 := bs28.step sb29 zs29
          refine v_pop C dX4_joinText_92 rfl ?_
          refine v_aload_n C 0 rfl dX4_joinText_93 rfl ?_
          refine v_callV (rest := []) C (c_J4_toString_0e30d l hl G q1 ar29 cap29 f29 (((((([] ++ [109, 97, 120]) ++ [40]) ++ s1) ++ [44, 32]) ++ s2) ++ [41]) h29 bs29.1) K_X4_169 bs29.1.1 rfl rfl (Nat.le_of_ble_eq_true rfl) ⟨Nat.le_of_ble_eq_true rfl, Nat.le_of_ble_eq_true rfl⟩ ⟨Nat.le_of_ble_eq_true rfl, Nat.le_of_ble_eq_true rfl⟩ dX4_joinText_94 (fun r30 h30 w30 => ?_)
          have tp30 := TxPost.of bs29 w30
          exact v_aret C hQ hr (Or.inl ⟨_, rfl⟩) (Nat.le_of_ble_eq_true rfl) (Nat.le_of_ble_eq_true rfl) dX4_joinText_97 (by rw [show sjt kd s1 s2 = (((((([] ++ [109, 97, 120]) ++ [40]) ++ s1) ++ [44, 32]) ++ s2) ++ [41]) from (by first | (exfalso; omega) | (unfold sjt; simp [c4, c5, c25, c26, List.append_assoc]))]; exact tp30)
        · have c26 := (nk_ne_f (a := kd) 1 (by decide) (by omega) (by decide)).mp c26
          refine v_aload_n C 0 rfl dX4_joinText_65 rfl ?_
          refine v_ldcS (tx := " - ") C rfl (by decide) dX4_joinText_66 ?_
          refine v_callV (rest := []) C (c_J4_append_15ec4 l hl G q1 ar24 cap24 f24 ((([] ++ [109, 97, 120]) ++ [40]) ++ s1) (gs G 182) (gb G 182) _ [32, 45, 32] h24 bs24.1 (zTt.con (q := (182, [32, 45, 32])) (by decide)) (Or.inl (fun h' => (zTt.con (h := h') (q := (182, [32, 45, 32])) (by decide)))) (by simp only [List.length_append, List.length_cons, List.length_nil, dgl_len]; omega)) K_X4_162 bs24.1.1 rfl rfl (Nat.le_of_ble_eq_true rfl) ⟨Nat.le_of_ble_eq_true rfl, Nat.le_of_ble_eq_true rfl⟩ ⟨Nat.le_of_ble_eq_true rfl, Nat.le_of_ble_eq_true rfl⟩ dX4_joinText_68 (fun q31 h31 w31 => ?_)
          obtain ⟨eq31, ar31, cap31, f31, sb31, zs31⟩ := w31; have eqs31 := eq31.symm; subst eqs31
          have bs31 := bs24.step sb31 zs31
          refine v_pop C dX4_joinText_71 rfl ?_
          refine v_goto (tgt := 82) C dX4_joinText_72 (by decide) ?_
          refine v_aload_n C 0 rfl dX4_joinText_82 rfl ?_
          refine v_aload_n C 3 rfl dX4_joinText_83 rfl ?_
          refine v_callV (rest := []) C (c_J4_append_15ec4 l hl G q1 ar31 cap31 f31 (((([] ++ [109, 97, 120]) ++ [40]) ++ s1) ++ [32, 45, 32]) a2 b2 f2 s2 h31 bs31.1 (bs31.txt ht2.tt ht2.2.1).1 (bs31.txt ht2.tt ht2.2.1).2 (by simp only [List.length_append, List.length_cons, List.length_nil, dgl_len]; omega)) K_X4_162 bs31.1.1 rfl rfl (Nat.le_of_ble_eq_true rfl) ⟨Nat.le_of_ble_eq_true rfl, Nat.le_of_ble_eq_true rfl⟩ ⟨Nat.le_of_ble_eq_true rfl, Nat.le_of_ble_eq_true rfl⟩ dX4_joinText_84 (fun q32 h32 w32 => ?_)
          obtain ⟨eq32, ar32, cap32, f32, sb32, zs32⟩ := w32; have eqs32 := eq32.symm; subst eqs32
          have bs32 := bs31.step sb32 zs32
          refine v_bipush (v := 41) C dX4_joinText_87 (by decide) ?_
          refine v_callV (rest := []) C (c_J4_append_cf468 l hl G q1 ar32 cap32 f32 ((((([] ++ [109, 97, 120]) ++ [40]) ++ s1) ++ [32, 45, 32]) ++ s2) 41 h32 bs32.1 (by decide) (by simp only [List.length_append, List.length_cons, List.length_nil, dgl_len]; omega)) K_X4_177 bs32.1.1 rfl rfl (Nat.le_of_ble_eq_true rfl) ⟨Nat.le_of_ble_eq_true rfl, Nat.le_of_ble_eq_true rfl⟩ ⟨Nat.le_of_ble_eq_true rfl, Nat.le_of_ble_eq_true rfl⟩ dX4_joinText_89 (fun q33 h33 w33 => ?_)
          obtain ⟨eq33, ar33, cap33, f33, sb33, zs33⟩ := w33; have eqs33 := eq33.symm; subst eqs33
          have bs33 := bs32.step sb33 zs33
          refine v_pop C dX4_joinText_92 rfl ?_
          refine v_aload_n C 0 rfl dX4_joinText_93 rfl ?_
          refine v_callV (rest := []) C (c_J4_toString_0e30d l hl G q1 ar33 cap33 f33 (((((([] ++ [109, 97, 120]) ++ [40]) ++ s1) ++ [32, 45, 32]) ++ s2) ++ [41]) h33 bs33.1) K_X4_169 bs33.1.1 rfl rfl (Nat.le_of_ble_eq_true rfl) ⟨Nat.le_of_ble_eq_true rfl, Nat.le_of_ble_eq_true rfl⟩ ⟨Nat.le_of_ble_eq_true rfl, Nat.le_of_ble_eq_true rfl⟩ dX4_joinText_94 (fun r34 h34 w34 => ?_)
          have tp34 := TxPost.of bs33 w34
          exact v_aret C hQ hr (Or.inl ⟨_, rfl⟩) (Nat.le_of_ble_eq_true rfl) (Nat.le_of_ble_eq_true rfl) dX4_joinText_97 (by rw [show sjt kd s1 s2 = (((((([] ++ [109, 97, 120]) ++ [40]) ++ s1) ++ [32, 45, 32]) ++ s2) ++ [41]) from (by first | (exfalso; omega) | (unfold sjt; simp [c4, c5, c25, c26, List.append_assoc]))]; exact tp34)
      · have c25 := (nk_ne_f (a := kd) 0 (by decide) (by omega) (by decide)).mp c25
        refine v_aload_n C 0 rfl dX4_joinText_50 rfl ?_
        refine v_ldcS (tx := " + ") C rfl (by decide) dX4_joinText_51 ?_
        refine v_callV (rest := []) C (c_J4_append_15ec4 l hl G q1 ar24 cap24 f24 ((([] ++ [109, 97, 120]) ++ [40]) ++ s1) (gs G 180) (gb G 180) _ [32, 43, 32] h24 bs24.1 (zTt.con (q := (180, [32, 43, 32])) (by decide)) (Or.inl (fun h' => (zTt.con (h := h') (q := (180, [32, 43, 32])) (by decide)))) (by simp only [List.length_append, List.length_cons, List.length_nil, dgl_len]; omega)) K_X4_162 bs24.1.1 rfl rfl (Nat.le_of_ble_eq_true rfl) ⟨Nat.le_of_ble_eq_true rfl, Nat.le_of_ble_eq_true rfl⟩ ⟨Nat.le_of_ble_eq_true rfl, Nat.le_of_ble_eq_true rfl⟩ dX4_joinText_53 (fun q35 h35 w35 => ?_)
        obtain ⟨eq35, ar35, cap35, f35, sb35, zs35⟩ := w35; have eqs35 := eq35.symm; subst eqs35
        have bs35 := bs24.step sb35 zs35
        refine v_pop C dX4_joinText_56 rfl ?_
        refine v_goto (tgt := 82) C dX4_joinText_57 (by decide) ?_
        refine v_aload_n C 0 rfl dX4_joinText_82 rfl ?_
        refine v_aload_n C 3 rfl dX4_joinText_83 rfl ?_
        refine v_callV (rest := []) C (c_J4_append_15ec4 l hl G q1 ar35 cap35 f35 (((([] ++ [109, 97, 120]) ++ [40]) ++ s1) ++ [32, 43, 32]) a2 b2 f2 s2 h35 bs35.1 (bs35.txt ht2.tt ht2.2.1).1 (bs35.txt ht2.tt ht2.2.1).2 (by simp only [List.length_append, List.length_cons, List.length_nil, dgl_len]; omega)) K_X4_162 bs35.1.1 rfl rfl (Nat.le_of_ble_eq_true rfl) ⟨Nat.le_of_ble_eq_true rfl, Nat.le_of_ble_eq_true rfl⟩ ⟨Nat.le_of_ble_eq_true rfl, Nat.le_of_ble_eq_true rfl⟩ dX4_joinText_84 (fun q36 h36 w36 => ?_)
        obtain ⟨eq36, ar36, cap36, f36, sb36, zs36⟩ := w36; have eqs36 := eq36.symm; subst eqs36
        have bs36 := bs35.step sb36 zs36
        refine v_bipush (v := 41) C dX4_joinText_87 (by decide) ?_
        refine v_callV (rest := []) C (c_J4_append_cf468 l hl G q1 ar36 cap36 f36 ((((([] ++ [109, 97, 120]) ++ [40]) ++ s1) ++ [32, 43, 32]) ++ s2) 41 h36 bs36.1 (by decide) (by simp only [List.length_append, List.length_cons, List.length_nil, dgl_len]; omega)) K_X4_177 bs36.1.1 rfl rfl (Nat.le_of_ble_eq_true rfl) ⟨Nat.le_of_ble_eq_true rfl, Nat.le_of_ble_eq_true rfl⟩ ⟨Nat.le_of_ble_eq_true rfl, Nat.le_of_ble_eq_true rfl⟩ dX4_joinText_89 (fun q37 h37 w37 => ?_)
        obtain ⟨eq37, ar37, cap37, f37, sb37, zs37⟩ := w37; have eqs37 := eq37.symm; subst eqs37
        have bs37 := bs36.step sb37 zs37
        refine v_pop C dX4_joinText_92 rfl ?_
        refine v_aload_n C 0 rfl dX4_joinText_93 rfl ?_
        refine v_callV (rest := []) C (c_J4_toString_0e30d l hl G q1 ar37 cap37 f37 (((((([] ++ [109, 97, 120]) ++ [40]) ++ s1) ++ [32, 43, 32]) ++ s2) ++ [41]) h37 bs37.1) K_X4_169 bs37.1.1 rfl rfl (Nat.le_of_ble_eq_true rfl) ⟨Nat.le_of_ble_eq_true rfl, Nat.le_of_ble_eq_true rfl⟩ ⟨Nat.le_of_ble_eq_true rfl, Nat.le_of_ble_eq_true rfl⟩ dX4_joinText_94 (fun r38 h38 w38 => ?_)
        have tp38 := TxPost.of bs37 w38
        exact v_aret C hQ hr (Or.inl ⟨_, rfl⟩) (Nat.le_of_ble_eq_true rfl) (Nat.le_of_ble_eq_true rfl) dX4_joinText_97 (by rw [show sjt kd s1 s2 = (((((([] ++ [109, 97, 120]) ++ [40]) ++ s1) ++ [32, 43, 32]) ++ s2) ++ [41]) from (by first | (exfalso; omega) | (unfold sjt; simp [c4, c5, c25, List.append_assoc]))]; exact tp38)
  · have c4 := (nk_ne_f (a := kd) 2 (by decide) (by omega) (by decide)).mp c4
    refine v_aload_n C 0 rfl dX4_joinText_13 rfl ?_
    refine v_ldcS (tx := "min") C rfl (by decide) dX4_joinText_14 ?_
    refine v_callV (rest := []) C (c_J4_append_15ec4 l hl G q1 ar3 16 (fun _ => 0) ([]) (gs G 173) (gb G 173) _ [109, 105, 110] h3 bs3.1 (zTt.con (q := (173, [109, 105, 110])) (by decide)) (Or.inl (fun h' => (zTt.con (h := h') (q := (173, [109, 105, 110])) (by decide)))) (by simp only [List.length_append, List.length_cons, List.length_nil, dgl_len]; omega)) K_X4_162 bs3.1.1 rfl rfl (Nat.le_of_ble_eq_true rfl) ⟨Nat.le_of_ble_eq_true rfl, Nat.le_of_ble_eq_true rfl⟩ ⟨Nat.le_of_ble_eq_true rfl, Nat.le_of_ble_eq_true rfl⟩ dX4_joinText_16 (fun q39 h39 w39 => ?_)
    obtain ⟨eq39, ar39, cap39, f39, sb39, zs39⟩ := w39; have eqs39 := eq39.symm; subst eqs39
    have bs39 := bs3.step sb39 zs39
    refine v_pop C dX4_joinText_19 rfl ?_
    refine v_goto (tgt := 35) C dX4_joinText_20 (by decide) ?_
    refine v_aload_n C 0 rfl dX4_joinText_35 rfl ?_
    refine v_bipush (v := 40) C dX4_joinText_36 (by decide) ?_
    refine v_callV (rest := []) C (c_J4_append_cf468 l hl G q1 ar39 cap39 f39 ([] ++ [109, 105, 110]) 40 h39 bs39.1 (by decide) (by simp only [List.length_append, List.length_cons, List.length_nil, dgl_len]; omega)) K_X4_177 bs39.1.1 rfl rfl (Nat.le_of_ble_eq_true rfl) ⟨Nat.le_of_ble_eq_true rfl, Nat.le_of_ble_eq_true rfl⟩ ⟨Nat.le_of_ble_eq_true rfl, Nat.le_of_ble_eq_true rfl⟩ dX4_joinText_38 (fun q40 h40 w40 => ?_)
    obtain ⟨eq40, ar40, cap40, f40, sb40, zs40⟩ := w40; have eqs40 := eq40.symm; subst eqs40
    have bs40 := bs39.step sb40 zs40
    refine v_aload_n C 2 rfl dX4_joinText_41 rfl ?_
    refine v_callV (rest := []) C (c_J4_append_15ec4 l hl G q1 ar40 cap40 f40 (([] ++ [109, 105, 110]) ++ [40]) a1 b1 f1 s1 h40 bs40.1 (bs40.txt ht1.tt ht1.2.1).1 (bs40.txt ht1.tt ht1.2.1).2 (by simp only [List.length_append, List.length_cons, List.length_nil, dgl_len]; omega)) K_X4_162 bs40.1.1 rfl rfl (Nat.le_of_ble_eq_true rfl) ⟨Nat.le_of_ble_eq_true rfl, Nat.le_of_ble_eq_true rfl⟩ ⟨Nat.le_of_ble_eq_true rfl, Nat.le_of_ble_eq_true rfl⟩ dX4_joinText_42 (fun q41 h41 w41 => ?_)
    obtain ⟨eq41, ar41, cap41, f41, sb41, zs41⟩ := w41; have eqs41 := eq41.symm; subst eqs41
    have bs41 := bs40.step sb41 zs41
    refine v_pop C dX4_joinText_45 rfl ?_
    refine v_iload_n C 1 rfl dX4_joinText_46 rfl ?_
    refine v_if_ne (tgt := 60) C dX4_joinText_47 (by decide) (fun c42 => ?_) (fun c42 => ?_)
    · have c42 := (nk_ne (a := kd) 0 (by decide) (by omega) (by decide)).mp c42
      refine v_iload_n C 1 rfl dX4_joinText_60 rfl ?_
      refine v_iconst (v := 1) C dX4_joinText_61 (by decide) ?_
      refine v_icmp_ne (tgt := 75) C dX4_joinText_62 (by decide) (fun c43 => ?_) (fun c43 => ?_)
      · have c43 := (nk_ne (a := kd) 1 (by decide) (by omega) (by decide)).mp c43
        refine v_aload_n C 0 rfl dX4_joinText_75 rfl ?_
        refine v_ldcS (tx := ", ") C rfl (by decide) dX4_joinText_76 ?_
        refine v_callV (rest := []) C (c_J4_append_15ec4 l hl G q1 ar41 cap41 f41 ((([] ++ [109, 105, 110]) ++ [40]) ++ s1) (gs G 184) (gb G 184) _ [44, 32] h41 bs41.1 (zTt.con (q := (184, [44, 32])) (by decide)) (Or.inl (fun h' => (zTt.con (h := h') (q := (184, [44, 32])) (by decide)))) (by simp only [List.length_append, List.length_cons, List.length_nil, dgl_len]; omega)) K_X4_162 bs41.1.1 rfl rfl (Nat.le_of_ble_eq_true rfl) ⟨Nat.le_of_ble_eq_true rfl, Nat.le_of_ble_eq_true rfl⟩ ⟨Nat.le_of_ble_eq_true rfl, Nat.le_of_ble_eq_true rfl⟩ dX4_joinText_78 (fun q44 h44 w44 => ?_)
        obtain ⟨eq44, ar44, cap44, f44, sb44, zs44⟩ := w44; have eqs44 := eq44.symm; subst eqs44
        have bs44 := bs41.step sb44 zs44
        refine v_pop C dX4_joinText_81 rfl ?_
        refine v_aload_n C 0 rfl dX4_joinText_82 rfl ?_
        refine v_aload_n C 3 rfl dX4_joinText_83 rfl ?_
        refine v_callV (rest := []) C (c_J4_append_15ec4 l hl G q1 ar44 cap44 f44 (((([] ++ [109, 105, 110]) ++ [40]) ++ s1) ++ [44, 32]) a2 b2 f2 s2 h44 bs44.1 (bs44.txt ht2.tt ht2.2.1).1 (bs44.txt ht2.tt ht2.2.1).2 (by simp only [List.length_append, List.length_cons, List.length_nil, dgl_len]; omega)) K_X4_162 bs44.1.1 rfl rfl (Nat.le_of_ble_eq_true rfl) ⟨Nat.le_of_ble_eq_true rfl, Nat.le_of_ble_eq_true rfl⟩ ⟨Nat.le_of_ble_eq_true rfl, Nat.le_of_ble_eq_true rfl⟩ dX4_joinText_84 (fun q45 h45 w45 => ?_)
        obtain ⟨eq45, ar45, cap45, f45, sb45, zs45⟩ := w45; have eqs45 := eq45.symm; subst eqs45
        have bs45 := bs44.step sb45 zs45
        refine v_bipush (v := 41) C dX4_joinText_87 (by decide) ?_
        refine v_callV (rest := []) C (c_J4_append_cf468 l hl G q1 ar45 cap45 f45 ((((([] ++ [109, 105, 110]) ++ [40]) ++ s1) ++ [44, 32]) ++ s2) 41 h45 bs45.1 (by decide) (by simp only [List.length_append, List.length_cons, List.length_nil, dgl_len]; omega)) K_X4_177 bs45.1.1 rfl rfl (Nat.le_of_ble_eq_true rfl) ⟨Nat.le_of_ble_eq_true rfl, Nat.le_of_ble_eq_true rfl⟩ ⟨Nat.le_of_ble_eq_true rfl, Nat.le_of_ble_eq_true rfl⟩ dX4_joinText_89 (fun q46 h46 w46 => ?_)
        obtain ⟨eq46, ar46, cap46, f46, sb46, zs46⟩ := w46; have eqs46 := eq46.symm; subst eqs46
        have bs46 := bs45.step sb46 zs46
        refine v_pop C dX4_joinText_92 rfl ?_
        refine v_aload_n C 0 rfl dX4_joinText_93 rfl ?_
        refine v_callV (rest := []) C (c_J4_toString_0e30d l hl G q1 ar46 cap46 f46 (((((([] ++ [109, 105, 110]) ++ [40]) ++ s1) ++ [44, 32]) ++ s2) ++ [41]) h46 bs46.1) K_X4_169 bs46.1.1 rfl rfl (Nat.le_of_ble_eq_true rfl) ⟨Nat.le_of_ble_eq_true rfl, Nat.le_of_ble_eq_true rfl⟩ ⟨Nat.le_of_ble_eq_true rfl, Nat.le_of_ble_eq_true rfl⟩ dX4_joinText_94 (fun r47 h47 w47 => ?_)
        have tp47 := TxPost.of bs46 w47
        exact v_aret C hQ hr (Or.inl ⟨_, rfl⟩) (Nat.le_of_ble_eq_true rfl) (Nat.le_of_ble_eq_true rfl) dX4_joinText_97 (by rw [show sjt kd s1 s2 = (((((([] ++ [109, 105, 110]) ++ [40]) ++ s1) ++ [44, 32]) ++ s2) ++ [41]) from (by first | (exfalso; omega) | (unfold sjt; simp [c4, c42, c43, List.append_assoc]))]; exact tp47)
      · have c43 := (nk_ne_f (a := kd) 1 (by decide) (by omega) (by decide)).mp c43
        refine v_aload_n C 0 rfl dX4_joinText_65 rfl ?_
        refine v_ldcS (tx := " - ") C rfl (by decide) dX4_joinText_66 ?_
        refine v_callV (rest := []) C (c_J4_append_15ec4 l hl G q1 ar41 cap41 f41 ((([] ++ [109, 105, 110]) ++ [40]) ++ s1) (gs G 182) (gb G 182) _ [32, 45, 32] h41 bs41.1 (zTt.con (q := (182, [32, 45, 32])) (by decide)) (Or.inl (fun h' => (zTt.con (h := h') (q := (182, [32, 45, 32])) (by decide)))) (by simp only [List.length_append, List.length_cons, List.length_nil, dgl_len]; omega)) K_X4_162 bs41.1.1 rfl rfl (Nat.le_of_ble_eq_true rfl) ⟨Nat.le_of_ble_eq_true rfl, Nat.le_of_ble_eq_true rfl⟩ ⟨Nat.le_of_ble_eq_true rfl, Nat.le_of_ble_eq_true rfl⟩ dX4_joinText_68 (fun q48 h48 w48 => ?_)
        obtain ⟨eq48, ar48, cap48, f48, sb48, zs48⟩ := w48; have eqs48 := eq48.symm; subst eqs48
        have bs48 := bs41.step sb48 zs48
        refine v_pop C dX4_joinText_71 rfl ?_
        refine v_goto (tgt := 82) C dX4_joinText_72 (by decide) ?_
        refine v_aload_n C 0 rfl dX4_joinText_82 rfl ?_
        refine v_aload_n C 3 rfl dX4_joinText_83 rfl ?_
        refine v_callV (rest := []) C (c_J4_append_15ec4 l hl G q1 ar48 cap48 f48 (((([] ++ [109, 105, 110]) ++ [40]) ++ s1) ++ [32, 45, 32]) a2 b2 f2 s2 h48 bs48.1 (bs48.txt ht2.tt ht2.2.1).1 (bs48.txt ht2.tt ht2.2.1).2 (by simp only [List.length_append, List.length_cons, List.length_nil, dgl_len]; omega)) K_X4_162 bs48.1.1 rfl rfl (Nat.le_of_ble_eq_true rfl) ⟨Nat.le_of_ble_eq_true rfl, Nat.le_of_ble_eq_true rfl⟩ ⟨Nat.le_of_ble_eq_true rfl, Nat.le_of_ble_eq_true rfl⟩ dX4_joinText_84 (fun q49 h49 w49 => ?_)
        obtain ⟨eq49, ar49, cap49, f49, sb49, zs49⟩ := w49; have eqs49 := eq49.symm; subst eqs49
        have bs49 := bs48.step sb49 zs49
        refine v_bipush (v := 41) C dX4_joinText_87 (by decide) ?_
        refine v_callV (rest := []) C (c_J4_append_cf468 l hl G q1 ar49 cap49 f49 ((((([] ++ [109, 105, 110]) ++ [40]) ++ s1) ++ [32, 45, 32]) ++ s2) 41 h49 bs49.1 (by decide) (by simp only [List.length_append, List.length_cons, List.length_nil, dgl_len]; omega)) K_X4_177 bs49.1.1 rfl rfl (Nat.le_of_ble_eq_true rfl) ⟨Nat.le_of_ble_eq_true rfl, Nat.le_of_ble_eq_true rfl⟩ ⟨Nat.le_of_ble_eq_true rfl, Nat.le_of_ble_eq_true rfl⟩ dX4_joinText_89 (fun q50 h50 w50 => ?_)
        obtain ⟨eq50, ar50, cap50, f50, sb50, zs50⟩ := w50; have eqs50 := eq50.symm; subst eqs50
        have bs50 := bs49.step sb50 zs50
        refine v_pop C dX4_joinText_92 rfl ?_
        refine v_aload_n C 0 rfl dX4_joinText_93 rfl ?_
        refine v_callV (rest := []) C (c_J4_toString_0e30d l hl G q1 ar50 cap50 f50 (((((([] ++ [109, 105, 110]) ++ [40]) ++ s1) ++ [32, 45, 32]) ++ s2) ++ [41]) h50 bs50.1) K_X4_169 bs50.1.1 rfl rfl (Nat.le_of_ble_eq_true rfl) ⟨Nat.le_of_ble_eq_true rfl, Nat.le_of_ble_eq_true rfl⟩ ⟨Nat.le_of_ble_eq_true rfl, Nat.le_of_ble_eq_true rfl⟩ dX4_joinText_94 (fun r51 h51 w51 => ?_)
        have tp51 := TxPost.of bs50 w51
        exact v_aret C hQ hr (Or.inl ⟨_, rfl⟩) (Nat.le_of_ble_eq_true rfl) (Nat.le_of_ble_eq_true rfl) dX4_joinText_97 (by rw [show sjt kd s1 s2 = (((((([] ++ [109, 105, 110]) ++ [40]) ++ s1) ++ [32, 45, 32]) ++ s2) ++ [41]) from (by first | (exfalso; omega) | (unfold sjt; simp [c4, c42, c43, List.append_assoc]))]; exact tp51)
    · have c42 := (nk_ne_f (a := kd) 0 (by decide) (by omega) (by decide)).mp c42
      refine v_aload_n C 0 rfl dX4_joinText_50 rfl ?_
      refine v_ldcS (tx := " + ") C rfl (by decide) dX4_joinText_51 ?_
      refine v_callV (rest := []) C (c_J4_append_15ec4 l hl G q1 ar41 cap41 f41 ((([] ++ [109, 105, 110]) ++ [40]) ++ s1) (gs G 180) (gb G 180) _ [32, 43, 32] h41 bs41.1 (zTt.con (q := (180, [32, 43, 32])) (by decide)) (Or.inl (fun h' => (zTt.con (h := h') (q := (180, [32, 43, 32])) (by decide)))) (by simp only [List.length_append, List.length_cons, List.length_nil, dgl_len]; omega)) K_X4_162 bs41.1.1 rfl rfl (Nat.le_of_ble_eq_true rfl) ⟨Nat.le_of_ble_eq_true rfl, Nat.le_of_ble_eq_true rfl⟩ ⟨Nat.le_of_ble_eq_true rfl, Nat.le_of_ble_eq_true rfl⟩ dX4_joinText_53 (fun q52 h52 w52 => ?_)
      obtain ⟨eq52, ar52, cap52, f52, sb52, zs52⟩ := w52; have eqs52 := eq52.symm; subst eqs52
      have bs52 := bs41.step sb52 zs52
      refine v_pop C dX4_joinText_56 rfl ?_
      refine v_goto (tgt := 82) C dX4_joinText_57 (by decide) ?_
      refine v_aload_n C 0 rfl dX4_joinText_82 rfl ?_
      refine v_aload_n C 3 rfl dX4_joinText_83 rfl ?_
      refine v_callV (rest := []) C (c_J4_append_15ec4 l hl G q1 ar52 cap52 f52 (((([] ++ [109, 105, 110]) ++ [40]) ++ s1) ++ [32, 43, 32]) a2 b2 f2 s2 h52 bs52.1 (bs52.txt ht2.tt ht2.2.1).1 (bs52.txt ht2.tt ht2.2.1).2 (by simp only [List.length_append, List.length_cons, List.length_nil, dgl_len]; omega)) K_X4_162 bs52.1.1 rfl rfl (Nat.le_of_ble_eq_true rfl) ⟨Nat.le_of_ble_eq_true rfl, Nat.le_of_ble_eq_true rfl⟩ ⟨Nat.le_of_ble_eq_true rfl, Nat.le_of_ble_eq_true rfl⟩ dX4_joinText_84 (fun q53 h53 w53 => ?_)
      obtain ⟨eq53, ar53, cap53, f53, sb53, zs53⟩ := w53; have eqs53 := eq53.symm; subst eqs53
      have bs53 := bs52.step sb53 zs53
      refine v_bipush (v := 41) C dX4_joinText_87 (by decide) ?_
      refine v_callV (rest := []) C (c_J4_append_cf468 l hl G q1 ar53 cap53 f53 ((((([] ++ [109, 105, 110]) ++ [40]) ++ s1) ++ [32, 43, 32]) ++ s2) 41 h53 bs53.1 (by decide) (by simp only [List.length_append, List.length_cons, List.length_nil, dgl_len]; omega)) K_X4_177 bs53.1.1 rfl rfl (Nat.le_of_ble_eq_true rfl) ⟨Nat.le_of_ble_eq_true rfl, Nat.le_of_ble_eq_true rfl⟩ ⟨Nat.le_of_ble_eq_true rfl, Nat.le_of_ble_eq_true rfl⟩ dX4_joinText_89 (fun q54 h54 w54 => ?_)
      obtain ⟨eq54, ar54, cap54, f54, sb54, zs54⟩ := w54; have eqs54 := eq54.symm; subst eqs54
      have bs54 := bs53.step sb54 zs54
      refine v_pop C dX4_joinText_92 rfl ?_
      refine v_aload_n C 0 rfl dX4_joinText_93 rfl ?_
      refine v_callV (rest := []) C (c_J4_toString_0e30d l hl G q1 ar54 cap54 f54 (((((([] ++ [109, 105, 110]) ++ [40]) ++ s1) ++ [32, 43, 32]) ++ s2) ++ [41]) h54 bs54.1) K_X4_169 bs54.1.1 rfl rfl (Nat.le_of_ble_eq_true rfl) ⟨Nat.le_of_ble_eq_true rfl, Nat.le_of_ble_eq_true rfl⟩ ⟨Nat.le_of_ble_eq_true rfl, Nat.le_of_ble_eq_true rfl⟩ dX4_joinText_94 (fun r55 h55 w55 => ?_)
      have tp55 := TxPost.of bs54 w55
      exact v_aret C hQ hr (Or.inl ⟨_, rfl⟩) (Nat.le_of_ble_eq_true rfl) (Nat.le_of_ble_eq_true rfl) dX4_joinText_97 (by rw [show sjt kd s1 s2 = (((((([] ++ [109, 105, 110]) ++ [40]) ++ s1) ++ [32, 43, 32]) ++ s2) ++ [41]) from (by first | (exfalso; omega) | (unfold sjt; simp [c4, c42, List.append_assoc]))]; exact tp55)

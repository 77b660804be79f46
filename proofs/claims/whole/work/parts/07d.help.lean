set_option maxHeartbeats 4000000 in
set_option maxRecDepth 100000 in
theorem c_L_amount (l : Launch) (hl : l.stackTraces = false) (G : zG) (x o : Nat) (g : XGh) (s : ZS) (a q v : Int32) (fo : Nat → Int64) (h : zH) (hi : XI G h g x s) (hw : WFs s) (hoc : oC G h o fo) (hro : qR g o = (0, 0)) : zMetL eI l yL_amount cL_amount 6 (some .int) [(0, 12, 15, 13), (0, 12, 19, 15)] 32 10 8000 G [.ref x, .int a, .int q, .int v, .ref o] h (LQ G h g x o (kAmount a q v) (nAmount s a q v) (Int32.toInt64 (oA s (cl a) (cl q)))) := by
  refine con_ofL hl RL rfl (by decide +kernel) [(0, .ref x), (1, .int a), (2, .int q), (3, .int v), (4, .ref o)] rfl (Nat.le_of_ble_eq_true rfl) ?_
  intro zp ze zs zm zargs zbelow zmeth zc C hr hin hto hNc Q hQ
  have hts := C.2.2.2.2.1
  refine v_aload C 4 rfl dL_amount_0 ?_
  refine v_iconst (v := 0) C dL_amount_2 (by decide) ?_
  refine v_aload_n C 0 rfl dL_amount_3 rfl ?_
  refine v_iload_n C 1 rfl dL_amount_4 rfl ?_
  refine v_iload_n C 2 rfl dL_amount_5 rfl ?_
  refine v_iload_n C 3 rfl dL_amount_6 rfl ?_
  refine v_callVX (rest := [.int 0, .ref o]) C (c_X4_amount l hl G x g s a q v h hi hw) K_L_7 hi.1.1.1 rfl rfl (Nat.le_of_ble_eq_true rfl) ⟨Nat.le_of_ble_eq_true rfl, Nat.le_of_ble_eq_true rfl⟩ ⟨Nat.le_of_ble_eq_true rfl, Nat.le_of_ble_eq_true rfl⟩ dL_amount_7 (fun r1 h1 w1 => ?_) (fun E1 h1 w1 => ?_)
  · obtain ⟨ek, er1, g2, xz, fz⟩ := w1
    subst er1
    have ho2 := (fz o _ hoc hro).1
    refine v_i2l (v := ((oA s (cl a) (cl q)) : Int32).toInt64) C dL_amount_10 rfl ?_
    refine v_last C ho2 (show vp_in (0 : Int32) 1 from vpin (n := 0) (N := 1) (by decide) (by decide)) dL_amount_11 (v_nw (fun h2 eh2 => ?_))
    have k3 : h2 o = some (.inl (gc G 1, 1, .inr (.inl (vp_updL fo (0 : Int32).toNatClampNeg (Int32.toInt64 (oA s (cl a) (cl q))))))) := by rw [eh2]; exact zup_self _ _ _
    refine v_goto (tgt := 23) C dL_amount_12 (by decide) ?_
    refine v_iconst (v := 0) C dL_amount_23 (by decide) ?_
    exact v_iret C hQ hr rfl (Nat.le_of_ble_eq_true rfl) (Nat.le_of_ble_eq_true rfl) dL_amount_24 (LQ.ok (i := 0) hoc hro ek xz fz eh2 (by decide) rfl)
  · obtain ⟨rfl, w1⟩ := w1
    rcases w1 with ⟨ek, rfl⟩ | ⟨ek, rfl⟩
    · refine ⟨15, zCatch_of hto [] (⟨0, 12, 15, 13⟩ : ExceptionTableEntry) [(⟨0, 12, 19, 15⟩ : ExceptionTableEntry)] rfl (fun z hz => absurd hz List.not_mem_nil) rfl (by decide) (hts _ LC_13) (hts _ LK_IO), fun q1 => ?_⟩
      refine v_astore C [(5, .ref q1), (0, .ref x), (1, .int a), (2, .int q), (3, .int v), (4, .ref o)] rfl (by decide) dL_amount_15 ?_
      refine v_iconst (v := 1) C dL_amount_17 (by decide) ?_
      exact v_iret C hQ hr rfl (Nat.le_of_ble_eq_true rfl) (Nat.le_of_ble_eq_true rfl) dL_amount_18 (Or.inr ⟨fun z => by rw [ek] at z; exact absurd z (by decide), by rw [ek]; decide, rfl⟩)
    · refine ⟨19, zCatch_of hto [(⟨0, 12, 15, 13⟩ : ExceptionTableEntry)] (⟨0, 12, 19, 15⟩ : ExceptionTableEntry) [] rfl (List.forall_mem_cons.mpr ⟨⟨by decide, _, hts _ LC_13, hNc.1⟩, (fun z hz => absurd hz List.not_mem_nil)⟩) rfl (by decide) (hts _ LC_15) (hts _ LK_IA), fun q1 => ?_⟩
      refine v_astore C [(5, .ref q1), (0, .ref x), (1, .int a), (2, .int q), (3, .int v), (4, .ref o)] rfl (by decide) dL_amount_19 ?_
      refine v_iconst (v := 2) C dL_amount_21 (by decide) ?_
      exact v_iret C hQ hr rfl (Nat.le_of_ble_eq_true rfl) (Nat.le_of_ble_eq_true rfl) dL_amount_22 (Or.inr ⟨fun z => by rw [ek] at z; exact absurd z (by decide), by rw [ek]; decide, rfl⟩)
set_option maxHeartbeats 4000000 in
set_option maxRecDepth 100000 in
theorem c_L_account (l : Launch) (hl : l.stackTraces = false) (G : zG) (x o : Nat) (g : XGh) (s : ZS) (a : Int32) (fo : Nat → Int64) (h : zH) (hi : XI G h g x s) (hw : WFs s) (hoc : oC G h o fo) (hro : qR g o = (0, 0)) : zMetL eI l yL_account cL_account 4 (some .int) [(0, 9, 12, 13), (0, 9, 15, 21)] 20 10 8000 G [.ref x, .int a, .ref o] h (LQ G h g x o (kAccount s a) (nPush s ([(4, cl a)], 1)) (Int32.toInt64 (nI ((oS s).length + 1)))) := by
  refine con_ofL hl RL rfl (by decide +kernel) [(0, .ref x), (1, .int a), (2, .ref o)] rfl (Nat.le_of_ble_eq_true rfl) ?_
  intro zp ze zs zm zargs zbelow zmeth zc C hr hin hto hNc Q hQ
  have hts := C.2.2.2.2.1
  refine v_aload_n C 2 rfl dL_account_0 rfl ?_
  refine v_iconst (v := 0) C dL_account_1 (by decide) ?_
  refine v_aload_n C 0 rfl dL_account_2 rfl ?_
  refine v_iload_n C 1 rfl dL_account_3 rfl ?_
  refine v_callVX (rest := [.int 0, .ref o]) C (c_X4_account l hl G x g s a h hi hw) K_L_17 hi.1.1.1 rfl rfl (Nat.le_of_ble_eq_true rfl) ⟨Nat.le_of_ble_eq_true rfl, Nat.le_of_ble_eq_true rfl⟩ ⟨Nat.le_of_ble_eq_true rfl, Nat.le_of_ble_eq_true rfl⟩ dL_account_4 (fun r1 h1 w1 => ?_) (fun E1 h1 w1 => ?_)
  · obtain ⟨ek, er1, g2, xz, fz⟩ := w1
    subst er1
    have ho2 := (fz o _ hoc hro).1
    refine v_i2l (v := lN64 ((oS s).length + 1)) C dL_account_7 rfl ?_
    refine v_last C ho2 (show vp_in (0 : Int32) 1 from vpin (n := 0) (N := 1) (by decide) (by decide)) dL_account_8 (v_nw (fun h2 eh2 => ?_))
    have k3 : h2 o = some (.inl (gc G 1, 1, .inr (.inl (vp_updL fo (0 : Int32).toNatClampNeg (lN64 ((oS s).length + 1)))))) := by rw [eh2]; exact zup_self _ _ _
    refine v_goto (tgt := 18) C dL_account_9 (by decide) ?_
    refine v_iconst (v := 0) C dL_account_18 (by decide) ?_
    exact v_iret C hQ hr rfl (Nat.le_of_ble_eq_true rfl) (Nat.le_of_ble_eq_true rfl) dL_account_19 (LQ.ok (i := 0) hoc hro ek xz fz eh2 (by decide) rfl)
  · obtain ⟨rfl, w1⟩ := w1
    rcases w1 with ⟨ek, rfl⟩ | ⟨ek, rfl⟩
    · refine ⟨12, zCatch_of hto [] (⟨0, 9, 12, 13⟩ : ExceptionTableEntry) [(⟨0, 9, 15, 21⟩ : ExceptionTableEntry)] rfl (fun z hz => absurd hz List.not_mem_nil) rfl (by decide) (hts _ LC_13) (hts _ LK_IO), fun q1 => ?_⟩
      refine v_astore_n C [(3, .ref q1), (0, .ref x), (1, .int a), (2, .ref o)] rfl (by decide) dL_account_12 rfl ?_
      refine v_iconst (v := 1) C dL_account_13 (by decide) ?_
      exact v_iret C hQ hr rfl (Nat.le_of_ble_eq_true rfl) (Nat.le_of_ble_eq_true rfl) dL_account_14 (Or.inr ⟨fun z => by rw [ek] at z; exact absurd z (by decide), by rw [ek]; decide, rfl⟩)
    · refine ⟨15, zCatch_of hto [(⟨0, 9, 12, 13⟩ : ExceptionTableEntry)] (⟨0, 9, 15, 21⟩ : ExceptionTableEntry) [] rfl (List.forall_mem_cons.mpr ⟨⟨by decide, _, hts _ LC_13, hNc.2.1⟩, (fun z hz => absurd hz List.not_mem_nil)⟩) rfl (by decide) (hts _ LC_21) (hts _ LK_IS), fun q1 => ?_⟩
      refine v_astore_n C [(3, .ref q1), (0, .ref x), (1, .int a), (2, .ref o)] rfl (by decide) dL_account_15 rfl ?_
      refine v_iconst (v := 2) C dL_account_16 (by decide) ?_
      exact v_iret C hQ hr rfl (Nat.le_of_ble_eq_true rfl) (Nat.le_of_ble_eq_true rfl) dL_account_17 (Or.inr ⟨fun z => by rw [ek] at z; exact absurd z (by decide), by rw [ek]; decide, rfl⟩)
set_option maxHeartbeats 4000000 in
set_option maxRecDepth 100000 in
theorem c_L_number (l : Launch) (hl : l.stackTraces = false) (G : zG) (x o : Nat) (g : XGh) (s : ZS) (v : Int32) (fo : Nat → Int64) (h : zH) (hi : XI G h g x s) (hw : WFs s) (hoc : oC G h o fo) (hro : qR g o = (0, 0)) : zMetL eI l yL_number cL_number 4 (some .int) [(0, 9, 12, 15), (0, 9, 15, 21)] 20 10 8000 G [.ref x, .int v, .ref o] h (LQ G h g x o (kNumber s v) (nPush s ([(5, cl v)], 1)) (Int32.toInt64 (nI ((oS s).length + 1)))) := by
  refine con_ofL hl RL rfl (by decide +kernel) [(0, .ref x), (1, .int v), (2, .ref o)] rfl (Nat.le_of_ble_eq_true rfl) ?_
  intro zp ze zs zm zargs zbelow zmeth zc C hr hin hto hNc Q hQ
  have hts := C.2.2.2.2.1
  refine v_aload_n C 2 rfl dL_number_0 rfl ?_
  refine v_iconst (v := 0) C dL_number_1 (by decide) ?_
  refine v_aload_n C 0 rfl dL_number_2 rfl ?_
  refine v_iload_n C 1 rfl dL_number_3 rfl ?_
  refine v_callVX (rest := [.int 0, .ref o]) C (c_X4_number l hl G x g s v h hi hw) K_L_23 hi.1.1.1 rfl rfl (Nat.le_of_ble_eq_true rfl) ⟨Nat.le_of_ble_eq_true rfl, Nat.le_of_ble_eq_true rfl⟩ ⟨Nat.le_of_ble_eq_true rfl, Nat.le_of_ble_eq_true rfl⟩ dL_number_4 (fun r1 h1 w1 => ?_) (fun E1 h1 w1 => ?_)
  · obtain ⟨ek, er1, g2, xz, fz⟩ := w1
    subst er1
    have ho2 := (fz o _ hoc hro).1
    refine v_i2l (v := lN64 ((oS s).length + 1)) C dL_number_7 rfl ?_
    refine v_last C ho2 (show vp_in (0 : Int32) 1 from vpin (n := 0) (N := 1) (by decide) (by decide)) dL_number_8 (v_nw (fun h2 eh2 => ?_))
    have k3 : h2 o = some (.inl (gc G 1, 1, .inr (.inl (vp_updL fo (0 : Int32).toNatClampNeg (lN64 ((oS s).length + 1)))))) := by rw [eh2]; exact zup_self _ _ _
    refine v_goto (tgt := 18) C dL_number_9 (by decide) ?_
    refine v_iconst (v := 0) C dL_number_18 (by decide) ?_
    exact v_iret C hQ hr rfl (Nat.le_of_ble_eq_true rfl) (Nat.le_of_ble_eq_true rfl) dL_number_19 (LQ.ok (i := 0) hoc hro ek xz fz eh2 (by decide) rfl)
  · obtain ⟨rfl, w1⟩ := w1
    rcases w1 with ⟨ek, rfl⟩ | ⟨ek, rfl⟩
    · refine ⟨12, zCatch_of hto [] (⟨0, 9, 12, 15⟩ : ExceptionTableEntry) [(⟨0, 9, 15, 21⟩ : ExceptionTableEntry)] rfl (fun z hz => absurd hz List.not_mem_nil) rfl (by decide) (hts _ LC_15) (hts _ LK_IA), fun q1 => ?_⟩
      refine v_astore_n C [(3, .ref q1), (0, .ref x), (1, .int v), (2, .ref o)] rfl (by decide) dL_number_12 rfl ?_
      refine v_iconst (v := 1) C dL_number_13 (by decide) ?_
      exact v_iret C hQ hr rfl (Nat.le_of_ble_eq_true rfl) (Nat.le_of_ble_eq_true rfl) dL_number_14 (Or.inr ⟨fun z => by rw [ek] at z; exact absurd z (by decide), by rw [ek]; decide, rfl⟩)
    · refine ⟨15, zCatch_of hto [(⟨0, 9, 12, 15⟩ : ExceptionTableEntry)] (⟨0, 9, 15, 21⟩ : ExceptionTableEntry) [] rfl (List.forall_mem_cons.mpr ⟨⟨by decide, _, hts _ LC_15, hNc.2.2.1⟩, (fun z hz => absurd hz List.not_mem_nil)⟩) rfl (by decide) (hts _ LC_21) (hts _ LK_IS), fun q1 => ?_⟩
      refine v_astore_n C [(3, .ref q1), (0, .ref x), (1, .int v), (2, .ref o)] rfl (by decide) dL_number_15 rfl ?_
      refine v_iconst (v := 2) C dL_number_16 (by decide) ?_
      exact v_iret C hQ hr rfl (Nat.le_of_ble_eq_true rfl) (Nat.le_of_ble_eq_true rfl) dL_number_17 (Or.inr ⟨fun z => by rw [ek] at z; exact absurd z (by decide), by rw [ek]; decide, rfl⟩)
set_option maxHeartbeats 4000000 in
set_option maxRecDepth 100000 in
theorem c_L_term (l : Launch) (hl : l.stackTraces = false) (G : zG) (x o : Nat) (g : XGh) (s : ZS) (t : Int32) (fo : Nat → Int64) (h : zH) (hi : XI G h g x s) (hw : WFs s) (hoc : oC G h o fo) (hro : qR g o = (0, 0)) : zMetL eI l yL_term cL_term 4 (some .int) [(0, 9, 12, 13), (0, 9, 15, 21)] 20 10 8000 G [.ref x, .int t, .ref o] h (LQ G h g x o (kTerm s t) (nPush s ([(6, cl t)], oL s (cl t) + 1)) (Int32.toInt64 (nI ((oS s).length + 1)))) := by
  refine con_ofL hl RL rfl (by decide +kernel) [(0, .ref x), (1, .int t), (2, .ref o)] rfl (Nat.le_of_ble_eq_true rfl) ?_
  intro zp ze zs zm zargs zbelow zmeth zc C hr hin hto hNc Q hQ
  have hts := C.2.2.2.2.1
  refine v_aload_n C 2 rfl dL_term_0 rfl ?_
  refine v_iconst (v := 0) C dL_term_1 (by decide) ?_
  refine v_aload_n C 0 rfl dL_term_2 rfl ?_
  refine v_iload_n C 1 rfl dL_term_3 rfl ?_
  refine v_callVX (rest := [.int 0, .ref o]) C (c_X4_term l hl G x g s t h hi hw) K_L_26 hi.1.1.1 rfl rfl (Nat.le_of_ble_eq_true rfl) ⟨Nat.le_of_ble_eq_true rfl, Nat.le_of_ble_eq_true rfl⟩ ⟨Nat.le_of_ble_eq_true rfl, Nat.le_of_ble_eq_true rfl⟩ dL_term_4 (fun r1 h1 w1 => ?_) (fun E1 h1 w1 => ?_)
  · obtain ⟨ek, er1, g2, xz, fz⟩ := w1
    subst er1
    have ho2 := (fz o _ hoc hro).1
    refine v_i2l (v := lN64 ((oS s).length + 1)) C dL_term_7 rfl ?_
    refine v_last C ho2 (show vp_in (0 : Int32) 1 from vpin (n := 0) (N := 1) (by decide) (by decide)) dL_term_8 (v_nw (fun h2 eh2 => ?_))
    have k3 : h2 o = some (.inl (gc G 1, 1, .inr (.inl (vp_updL fo (0 : Int32).toNatClampNeg (lN64 ((oS s).length + 1)))))) := by rw [eh2]; exact zup_self _ _ _
    refine v_goto (tgt := 18) C dL_term_9 (by decide) ?_
    refine v_iconst (v := 0) C dL_term_18 (by decide) ?_
    exact v_iret C hQ hr rfl (Nat.le_of_ble_eq_true rfl) (Nat.le_of_ble_eq_true rfl) dL_term_19 (LQ.ok (i := 0) hoc hro ek xz fz eh2 (by decide) rfl)
  · obtain ⟨rfl, w1⟩ := w1
    rcases w1 with ⟨ek, rfl⟩ | ⟨ek, rfl⟩
    · refine ⟨12, zCatch_of hto [] (⟨0, 9, 12, 13⟩ : ExceptionTableEntry) [(⟨0, 9, 15, 21⟩ : ExceptionTableEntry)] rfl (fun z hz => absurd hz List.not_mem_nil) rfl (by decide) (hts _ LC_13) (hts _ LK_IO), fun q1 => ?_⟩
      refine v_astore_n C [(3, .ref q1), (0, .ref x), (1, .int t), (2, .ref o)] rfl (by decide) dL_term_12 rfl ?_
      refine v_iconst (v := 1) C dL_term_13 (by decide) ?_
      exact v_iret C hQ hr rfl (Nat.le_of_ble_eq_true rfl) (Nat.le_of_ble_eq_true rfl) dL_term_14 (Or.inr ⟨fun z => by rw [ek] at z; exact absurd z (by decide), by rw [ek]; decide, rfl⟩)
    · refine ⟨15, zCatch_of hto [(⟨0, 9, 12, 13⟩ : ExceptionTableEntry)] (⟨0, 9, 15, 21⟩ : ExceptionTableEntry) [] rfl (List.forall_mem_cons.mpr ⟨⟨by decide, _, hts _ LC_13, hNc.2.1⟩, (fun z hz => absurd hz List.not_mem_nil)⟩) rfl (by decide) (hts _ LC_21) (hts _ LK_IS), fun q1 => ?_⟩
      refine v_astore_n C [(3, .ref q1), (0, .ref x), (1, .int t), (2, .ref o)] rfl (by decide) dL_term_15 rfl ?_
      refine v_iconst (v := 2) C dL_term_16 (by decide) ?_
      exact v_iret C hQ hr rfl (Nat.le_of_ble_eq_true rfl) (Nat.le_of_ble_eq_true rfl) dL_term_17 (Or.inr ⟨fun z => by rw [ek] at z; exact absurd z (by decide), by rw [ek]; decide, rfl⟩)
set_option maxHeartbeats 4000000 in
set_option maxRecDepth 100000 in
theorem c_L_join (l : Launch) (hl : l.stackTraces = false) (G : zG) (x o : Nat) (g : XGh) (s : ZS) (k : Int32) (fo : Nat → Int64) (h : zH) (hi : XI G h g x s) (hw : WFs s) (hoc : oC G h o fo) (hro : qR g o = (0, 0)) : zMetL eI l yL_join cL_join 4 (some .int) [(0, 9, 12, 15), (0, 9, 15, 21)] 20 20 9000 G [.ref x, .int k, .ref o] h (LQ G h g x o (kJoin s k) (nJoin s k) (Int32.toInt64 (nI ((oS s).length - 1)))) := by
  refine con_ofL hl RL rfl (by decide +kernel) [(0, .ref x), (1, .int k), (2, .ref o)] rfl (Nat.le_of_ble_eq_true rfl) ?_
  intro zp ze zs zm zargs zbelow zmeth zc C hr hin hto hNc Q hQ
  have hts := C.2.2.2.2.1
  refine v_aload_n C 2 rfl dL_join_0 rfl ?_
  refine v_iconst (v := 0) C dL_join_1 (by decide) ?_
  refine v_aload_n C 0 rfl dL_join_2 rfl ?_
  refine v_iload_n C 1 rfl dL_join_3 rfl ?_
  refine v_callVX (rest := [.int 0, .ref o]) C (c_X4_join l hl G x g s k h hi hw) K_L_29 hi.1.1.1 rfl rfl (Nat.le_of_ble_eq_true rfl) ⟨Nat.le_of_ble_eq_true rfl, Nat.le_of_ble_eq_true rfl⟩ ⟨Nat.le_of_ble_eq_true rfl, Nat.le_of_ble_eq_true rfl⟩ dL_join_4 (fun r1 h1 w1 => ?_) (fun E1 h1 w1 => ?_)
  · obtain ⟨ek, er1, g2, xz, fz⟩ := w1
    subst er1
    have ho2 := (fz o _ hoc hro).1
    refine v_i2l (v := lN64 ((oS s).length - 1)) C dL_join_7 rfl ?_
    refine v_last C ho2 (show vp_in (0 : Int32) 1 from vpin (n := 0) (N := 1) (by decide) (by decide)) dL_join_8 (v_nw (fun h2 eh2 => ?_))
    have k3 : h2 o = some (.inl (gc G 1, 1, .inr (.inl (vp_updL fo (0 : Int32).toNatClampNeg (lN64 ((oS s).length - 1)))))) := by rw [eh2]; exact zup_self _ _ _
    refine v_goto (tgt := 18) C dL_join_9 (by decide) ?_
    refine v_iconst (v := 0) C dL_join_18 (by decide) ?_
    exact v_iret C hQ hr rfl (Nat.le_of_ble_eq_true rfl) (Nat.le_of_ble_eq_true rfl) dL_join_19 (LQ.ok (i := 0) hoc hro ek xz fz eh2 (by decide) rfl)
  · obtain ⟨rfl, w1⟩ := w1
    rcases w1 with ⟨ek, rfl⟩ | ⟨ek, rfl⟩
    · refine ⟨12, zCatch_of hto [] (⟨0, 9, 12, 15⟩ : ExceptionTableEntry) [(⟨0, 9, 15, 21⟩ : ExceptionTableEntry)] rfl (fun z hz => absurd hz List.not_mem_nil) rfl (by decide) (hts _ LC_15) (hts _ LK_IA), fun q1 => ?_⟩
      refine v_astore_n C [(3, .ref q1), (0, .ref x), (1, .int k), (2, .ref o)] rfl (by decide) dL_join_12 rfl ?_
      refine v_iconst (v := 1) C dL_join_13 (by decide) ?_
      exact v_iret C hQ hr rfl (Nat.le_of_ble_eq_true rfl) (Nat.le_of_ble_eq_true rfl) dL_join_14 (Or.inr ⟨fun z => by rw [ek] at z; exact absurd z (by decide), by rw [ek]; decide, rfl⟩)
    · refine ⟨15, zCatch_of hto [(⟨0, 9, 12, 15⟩ : ExceptionTableEntry)] (⟨0, 9, 15, 21⟩ : ExceptionTableEntry) [] rfl (List.forall_mem_cons.mpr ⟨⟨by decide, _, hts _ LC_15, hNc.2.2.1⟩, (fun z hz => absurd hz List.not_mem_nil)⟩) rfl (by decide) (hts _ LC_21) (hts _ LK_IS), fun q1 => ?_⟩
      refine v_astore_n C [(3, .ref q1), (0, .ref x), (1, .int k), (2, .ref o)] rfl (by decide) dL_join_15 rfl ?_
      refine v_iconst (v := 2) C dL_join_16 (by decide) ?_
      exact v_iret C hQ hr rfl (Nat.le_of_ble_eq_true rfl) (Nat.le_of_ble_eq_true rfl) dL_join_17 (Or.inr ⟨fun z => by rw [ek] at z; exact absurd z (by decide), by rw [ek]; decide, rfl⟩)
set_option maxHeartbeats 4000000 in
set_option maxRecDepth 100000 in
theorem c_L_share (l : Launch) (hl : l.stackTraces = false) (G : zG) (x o : Nat) (g : XGh) (s : ZS) (p : Int32) (fo : Nat → Int64) (h : zH) (hi : XI G h g x s) (hw : WFs s) (hoc : oC G h o fo) (hro : qR g o = (0, 0)) : zMetL eI l yL_share cL_share 4 (some .int) [(0, 9, 12, 15), (0, 9, 15, 21)] 20 20 9000 G [.ref x, .int p, .ref o] h (LQ G h g x o (kShare s p) (nShare s p) (Int32.toInt64 (nI ((top1 s).2 + 1)))) := by
  refine con_ofL hl RL rfl (by decide +kernel) [(0, .ref x), (1, .int p), (2, .ref o)] rfl (Nat.le_of_ble_eq_true rfl) ?_
  intro zp ze zs zm zargs zbelow zmeth zc C hr hin hto hNc Q hQ
  have hts := C.2.2.2.2.1
  refine v_aload_n C 2 rfl dL_share_0 rfl ?_
  refine v_iconst (v := 0) C dL_share_1 (by decide) ?_
  refine v_aload_n C 0 rfl dL_share_2 rfl ?_
  refine v_iload_n C 1 rfl dL_share_3 rfl ?_
  refine v_callVX (rest := [.int 0, .ref o]) C (c_X4_share l hl G x g s p h hi hw) K_L_32 hi.1.1.1 rfl rfl (Nat.le_of_ble_eq_true rfl) ⟨Nat.le_of_ble_eq_true rfl, Nat.le_of_ble_eq_true rfl⟩ ⟨Nat.le_of_ble_eq_true rfl, Nat.le_of_ble_eq_true rfl⟩ dL_share_4 (fun r1 h1 w1 => ?_) (fun E1 h1 w1 => ?_)
  · obtain ⟨ek, er1, g2, xz, fz⟩ := w1
    subst er1
    have ho2 := (fz o _ hoc hro).1
    refine v_i2l (v := lN64 ((top1 s).2 + 1)) C dL_share_7 rfl ?_
    refine v_last C ho2 (show vp_in (0 : Int32) 1 from vpin (n := 0) (N := 1) (by decide) (by decide)) dL_share_8 (v_nw (fun h2 eh2 => ?_))
    have k3 : h2 o = some (.inl (gc G 1, 1, .inr (.inl (vp_updL fo (0 : Int32).toNatClampNeg (lN64 ((top1 s).2 + 1)))))) := by rw [eh2]; exact zup_self _ _ _
    refine v_goto (tgt := 18) C dL_share_9 (by decide) ?_
    refine v_iconst (v := 0) C dL_share_18 (by decide) ?_
    exact v_iret C hQ hr rfl (Nat.le_of_ble_eq_true rfl) (Nat.le_of_ble_eq_true rfl) dL_share_19 (LQ.ok (i := 0) hoc hro ek xz fz eh2 (by decide) rfl)
  · obtain ⟨rfl, w1⟩ := w1
    rcases w1 with ⟨ek, rfl⟩ | ⟨ek, rfl⟩
    · refine ⟨12, zCatch_of hto [] (⟨0, 9, 12, 15⟩ : ExceptionTableEntry) [(⟨0, 9, 15, 21⟩ : ExceptionTableEntry)] rfl (fun z hz => absurd hz List.not_mem_nil) rfl (by decide) (hts _ LC_15) (hts _ LK_IA), fun q1 => ?_⟩
      refine v_astore_n C [(3, .ref q1), (0, .ref x), (1, .int p), (2, .ref o)] rfl (by decide) dL_share_12 rfl ?_
      refine v_iconst (v := 1) C dL_share_13 (by decide) ?_
      exact v_iret C hQ hr rfl (Nat.le_of_ble_eq_true rfl) (Nat.le_of_ble_eq_true rfl) dL_share_14 (Or.inr ⟨fun z => by rw [ek] at z; exact absurd z (by decide), by rw [ek]; decide, rfl⟩)
    · refine ⟨15, zCatch_of hto [(⟨0, 9, 12, 15⟩ : ExceptionTableEntry)] (⟨0, 9, 15, 21⟩ : ExceptionTableEntry) [] rfl (List.forall_mem_cons.mpr ⟨⟨by decide, _, hts _ LC_15, hNc.2.2.1⟩, (fun z hz => absurd hz List.not_mem_nil)⟩) rfl (by decide) (hts _ LC_21) (hts _ LK_IS), fun q1 => ?_⟩
      refine v_astore_n C [(3, .ref q1), (0, .ref x), (1, .int p), (2, .ref o)] rfl (by decide) dL_share_15 rfl ?_
      refine v_iconst (v := 2) C dL_share_16 (by decide) ?_
      exact v_iret C hQ hr rfl (Nat.le_of_ble_eq_true rfl) (Nat.le_of_ble_eq_true rfl) dL_share_17 (Or.inr ⟨fun z => by rw [ek] at z; exact absurd z (by decide), by rw [ek]; decide, rfl⟩)
set_option maxHeartbeats 4000000 in
set_option maxRecDepth 100000 in
theorem c_L_year (l : Launch) (hl : l.stackTraces = false) (G : zG) (x o : Nat) (g : XGh) (s : ZS)  (fo : Nat → Int64) (h : zH) (hi : XI G h g x s) (hw : WFs s) (hoc : oC G h o fo) (hro : qR g o = (0, 0)) : zMetL eI l yL_year cL_year 3 (some .int) [(0, 8, 11, 21)] 20 20 9000 G [.ref x, .ref o] h (LQ G h g x o (kYear s) (nYear s) (Int32.toInt64 (nI ((top1 s).2 + 1)))) := by
  refine con_ofL hl RL rfl (by decide +kernel) [(0, .ref x), (1, .ref o)] rfl (Nat.le_of_ble_eq_true rfl) ?_
  intro zp ze zs zm zargs zbelow zmeth zc C hr hin hto hNc Q hQ
  have hts := C.2.2.2.2.1
  refine v_aload_n C 1 rfl dL_year_0 rfl ?_
  refine v_iconst (v := 0) C dL_year_1 (by decide) ?_
  refine v_aload_n C 0 rfl dL_year_2 rfl ?_
  refine v_callVX (rest := [.int 0, .ref o]) C (c_X4_year l hl G x g s h hi hw) K_L_35 hi.1.1.1 rfl rfl (Nat.le_of_ble_eq_true rfl) ⟨Nat.le_of_ble_eq_true rfl, Nat.le_of_ble_eq_true rfl⟩ ⟨Nat.le_of_ble_eq_true rfl, Nat.le_of_ble_eq_true rfl⟩ dL_year_3 (fun r1 h1 w1 => ?_) (fun E1 h1 w1 => ?_)
  · obtain ⟨ek, er1, g2, xz, fz⟩ := w1
    subst er1
    have ho2 := (fz o _ hoc hro).1
    refine v_i2l (v := lN64 ((top1 s).2 + 1)) C dL_year_6 rfl ?_
    refine v_last C ho2 (show vp_in (0 : Int32) 1 from vpin (n := 0) (N := 1) (by decide) (by decide)) dL_year_7 (v_nw (fun h2 eh2 => ?_))
    have k3 : h2 o = some (.inl (gc G 1, 1, .inr (.inl (vp_updL fo (0 : Int32).toNatClampNeg (lN64 ((top1 s).2 + 1)))))) := by rw [eh2]; exact zup_self _ _ _
    refine v_goto (tgt := 14) C dL_year_8 (by decide) ?_
    refine v_iconst (v := 0) C dL_year_14 (by decide) ?_
    exact v_iret C hQ hr rfl (Nat.le_of_ble_eq_true rfl) (Nat.le_of_ble_eq_true rfl) dL_year_15 (LQ.ok (i := 0) hoc hro ek xz fz eh2 (by decide) rfl)
  · obtain ⟨rfl, w1⟩ := w1
    obtain ⟨ek, rfl⟩ := w1
    refine ⟨11, zCatch_of hto [] (⟨0, 8, 11, 21⟩ : ExceptionTableEntry) [] rfl (fun z hz => absurd hz List.not_mem_nil) rfl (by decide) (hts _ LC_21) (hts _ LK_IS), fun q1 => ?_⟩
    refine v_astore_n C [(2, .ref q1), (0, .ref x), (1, .ref o)] rfl (by decide) dL_year_11 rfl ?_
    refine v_iconst (v := 1) C dL_year_12 (by decide) ?_
    exact v_iret C hQ hr rfl (Nat.le_of_ble_eq_true rfl) (Nat.le_of_ble_eq_true rfl) dL_year_13 (Or.inr ⟨fun z => by rw [ek] at z; exact absurd z (by decide), by rw [ek]; decide, rfl⟩)
set_option maxHeartbeats 4000000 in
set_option maxRecDepth 100000 in
theorem c_L_define (l : Launch) (hl : l.stackTraces = false) (G : zG) (x o : Nat) (g : XGh) (s : ZS)  (fo : Nat → Int64) (h : zH) (hi : XI G h g x s) (hw : WFs s) (hoc : oC G h o fo) (hro : qR g o = (0, 0)) : zMetL eI l yL_define cL_define 3 (some .int) [(0, 8, 11, 21)] 32 20 9000 G [.ref x, .ref o] h (LQ G h g x o (kDefine s) (nDefine s) (Int32.toInt64 (nI (oN s)))) := by
  refine con_ofL hl RL rfl (by decide +kernel) [(0, .ref x), (1, .ref o)] rfl (Nat.le_of_ble_eq_true rfl) ?_
  intro zp ze zs zm zargs zbelow zmeth zc C hr hin hto hNc Q hQ
  have hts := C.2.2.2.2.1
  refine v_aload_n C 1 rfl dL_define_0 rfl ?_
  refine v_iconst (v := 0) C dL_define_1 (by decide) ?_
  refine v_aload_n C 0 rfl dL_define_2 rfl ?_
  refine v_callVX (rest := [.int 0, .ref o]) C (c_X4_define l hl G x g s h hi hw) K_L_39 hi.1.1.1 rfl rfl (Nat.le_of_ble_eq_true rfl) ⟨Nat.le_of_ble_eq_true rfl, Nat.le_of_ble_eq_true rfl⟩ ⟨Nat.le_of_ble_eq_true rfl, Nat.le_of_ble_eq_true rfl⟩ dL_define_3 (fun r1 h1 w1 => ?_) (fun E1 h1 w1 => ?_)
  · obtain ⟨ek, er1, g2, xz, fz⟩ := w1
    subst er1
    have ho2 := (fz o _ hoc hro).1
    refine v_i2l (v := lN64 (oN s)) C dL_define_6 rfl ?_
    refine v_last C ho2 (show vp_in (0 : Int32) 1 from vpin (n := 0) (N := 1) (by decide) (by decide)) dL_define_7 (v_nw (fun h2 eh2 => ?_))
    have k3 : h2 o = some (.inl (gc G 1, 1, .inr (.inl (vp_updL fo (0 : Int32).toNatClampNeg (lN64 (oN s)))))) := by rw [eh2]; exact zup_self _ _ _
    refine v_goto (tgt := 14) C dL_define_8 (by decide) ?_
    refine v_iconst (v := 0) C dL_define_14 (by decide) ?_
    exact v_iret C hQ hr rfl (Nat.le_of_ble_eq_true rfl) (Nat.le_of_ble_eq_true rfl) dL_define_15 (LQ.ok (i := 0) hoc hro ek xz fz eh2 (by decide) rfl)
  · obtain ⟨rfl, w1⟩ := w1
    obtain ⟨ek, rfl⟩ := w1
    refine ⟨11, zCatch_of hto [] (⟨0, 8, 11, 21⟩ : ExceptionTableEntry) [] rfl (fun z hz => absurd hz List.not_mem_nil) rfl (by decide) (hts _ LC_21) (hts _ LK_IS), fun q1 => ?_⟩
    refine v_astore_n C [(2, .ref q1), (0, .ref x), (1, .ref o)] rfl (by decide) dL_define_11 rfl ?_
    refine v_iconst (v := 1) C dL_define_12 (by decide) ?_
    exact v_iret C hQ hr rfl (Nat.le_of_ble_eq_true rfl) (Nat.le_of_ble_eq_true rfl) dL_define_13 (Or.inr ⟨fun z => by rw [ek] at z; exact absurd z (by decide), by rw [ek]; decide, rfl⟩)
set_option maxHeartbeats 4000000 in
set_option maxRecDepth 100000 in
theorem c_L_amend (l : Launch) (hl : l.stackTraces = false) (G : zG) (x o : Nat) (g : XGh) (s : ZS) (t q : Int32) (fo : Nat → Int64) (h : zH) (hi : XI G h g x s) (hw : WFs s) (hoc : oC G h o fo) (hro : qR g o = (0, 0)) : zMetL eI l yL_amend cL_amend 5 (some .int) [(0, 10, 13, 13), (0, 10, 17, 21)] 32 20 9000 G [.ref x, .int t, .int q, .ref o] h (LQ G h g x o (kAmend s t q) (nAmend s t q) (Int32.toInt64 (nI (cnt (fun z => (oD (nAmend s t q) (cl t) z).isSome) 20)))) := by
  refine con_ofL hl RL rfl (by decide +kernel) [(0, .ref x), (1, .int t), (2, .int q), (3, .ref o)] rfl (Nat.le_of_ble_eq_true rfl) ?_
  intro zp ze zs zm zargs zbelow zmeth zc C hr hin hto hNc Q hQ
  have hts := C.2.2.2.2.1
  refine v_aload_n C 3 rfl dL_amend_0 rfl ?_
  refine v_iconst (v := 0) C dL_amend_1 (by decide) ?_
  refine v_aload_n C 0 rfl dL_amend_2 rfl ?_
  refine v_iload_n C 1 rfl dL_amend_3 rfl ?_
  refine v_iload_n C 2 rfl dL_amend_4 rfl ?_
  refine v_callVX (rest := [.int 0, .ref o]) C (c_X4_amend l hl G x g s t q h hi hw) K_L_42 hi.1.1.1 rfl rfl (Nat.le_of_ble_eq_true rfl) ⟨Nat.le_of_ble_eq_true rfl, Nat.le_of_ble_eq_true rfl⟩ ⟨Nat.le_of_ble_eq_true rfl, Nat.le_of_ble_eq_true rfl⟩ dL_amend_5 (fun r1 h1 w1 => ?_) (fun E1 h1 w1 => ?_)
  · obtain ⟨ek, er1, g2, xz, fz⟩ := w1
    subst er1
    have ho2 := (fz o _ hoc hro).1
    refine v_i2l (v := lN64 (cnt (fun z => (oD (nAmend s t q) (cl t) z).isSome) 20)) C dL_amend_8 rfl ?_
    refine v_last C ho2 (show vp_in (0 : Int32) 1 from vpin (n := 0) (N := 1) (by decide) (by decide)) dL_amend_9 (v_nw (fun h2 eh2 => ?_))
    have k3 : h2 o = some (.inl (gc G 1, 1, .inr (.inl (vp_updL fo (0 : Int32).toNatClampNeg (lN64 (cnt (fun z => (oD (nAmend s t q) (cl t) z).isSome) 20)))))) := by rw [eh2]; exact zup_self _ _ _
    refine v_goto (tgt := 21) C dL_amend_10 (by decide) ?_
    refine v_iconst (v := 0) C dL_amend_21 (by decide) ?_
    exact v_iret C hQ hr rfl (Nat.le_of_ble_eq_true rfl) (Nat.le_of_ble_eq_true rfl) dL_amend_22 (LQ.ok (i := 0) hoc hro ek xz fz eh2 (by decide) rfl)
  · obtain ⟨rfl, w1⟩ := w1
    rcases w1 with ⟨ek, rfl⟩ | ⟨ek, rfl⟩
    · refine ⟨13, zCatch_of hto [] (⟨0, 10, 13, 13⟩ : ExceptionTableEntry) [(⟨0, 10, 17, 21⟩ : ExceptionTableEntry)] rfl (fun z hz => absurd hz List.not_mem_nil) rfl (by decide) (hts _ LC_13) (hts _ LK_IO), fun q1 => ?_⟩
      refine v_astore C [(4, .ref q1), (0, .ref x), (1, .int t), (2, .int q), (3, .ref o)] rfl (by decide) dL_amend_13 ?_
      refine v_iconst (v := 1) C dL_amend_15 (by decide) ?_
      exact v_iret C hQ hr rfl (Nat.le_of_ble_eq_true rfl) (Nat.le_of_ble_eq_true rfl) dL_amend_16 (Or.inr ⟨fun z => by rw [ek] at z; exact absurd z (by decide), by rw [ek]; decide, rfl⟩)
    · refine ⟨17, zCatch_of hto [(⟨0, 10, 13, 13⟩ : ExceptionTableEntry)] (⟨0, 10, 17, 21⟩ : ExceptionTableEntry) [] rfl (List.forall_mem_cons.mpr ⟨⟨by decide, _, hts _ LC_13, hNc.2.1⟩, (fun z hz => absurd hz List.not_mem_nil)⟩) rfl (by decide) (hts _ LC_21) (hts _ LK_IS), fun q1 => ?_⟩
      refine v_astore C [(4, .ref q1), (0, .ref x), (1, .int t), (2, .int q), (3, .ref o)] rfl (by decide) dL_amend_17 ?_
      refine v_iconst (v := 2) C dL_amend_19 (by decide) ?_
      exact v_iret C hQ hr rfl (Nat.le_of_ble_eq_true rfl) (Nat.le_of_ble_eq_true rfl) dL_amend_20 (Or.inr ⟨fun z => by rw [ek] at z; exact absurd z (by decide), by rw [ek]; decide, rfl⟩)
set_option maxHeartbeats 4000000 in
set_option maxRecDepth 100000 in
theorem c_L_level (l : Launch) (hl : l.stackTraces = false) (G : zG) (x o : Nat) (g : XGh) (s : ZS) (t : Int32) (fo : Nat → Int64) (h : zH) (hi : XI G h g x s) (hw : WFs s) (hoc : oC G h o fo) (hro : qR g o = (0, 0)) : zMetL eI l yL_level cL_level 4 (some .int) [(0, 9, 12, 13)] 16 10 8000 G [.ref x, .int t, .ref o] h (LQ G h g x o (kIsT s t) s (Int32.toInt64 (nI (oL s (cl t))))) := by
  refine con_ofL hl RL rfl (by decide +kernel) [(0, .ref x), (1, .int t), (2, .ref o)] rfl (Nat.le_of_ble_eq_true rfl) ?_
  intro zp ze zs zm zargs zbelow zmeth zc C hr hin hto hNc Q hQ
  have hts := C.2.2.2.2.1
  refine v_aload_n C 2 rfl dL_level_0 rfl ?_
  refine v_iconst (v := 0) C dL_level_1 (by decide) ?_
  refine v_aload_n C 0 rfl dL_level_2 rfl ?_
  refine v_iload_n C 1 rfl dL_level_3 rfl ?_
  refine v_callVX (rest := [.int 0, .ref o]) C (c_X4_level l hl G x g s t h hi hw) K_L_46 hi.1.1.1 rfl rfl (Nat.le_of_ble_eq_true rfl) ⟨Nat.le_of_ble_eq_true rfl, Nat.le_of_ble_eq_true rfl⟩ ⟨Nat.le_of_ble_eq_true rfl, Nat.le_of_ble_eq_true rfl⟩ dL_level_4 (fun r1 h1 w1 => ?_) (fun E1 h1 w1 => ?_)
  · obtain ⟨ek, er1, g2, xz, fz⟩ := w1
    subst er1
    have ho2 := (fz o _ hoc hro).1
    refine v_i2l (v := lN64 (oL s (cl t))) C dL_level_7 rfl ?_
    refine v_last C ho2 (show vp_in (0 : Int32) 1 from vpin (n := 0) (N := 1) (by decide) (by decide)) dL_level_8 (v_nw (fun h2 eh2 => ?_))
    have k3 : h2 o = some (.inl (gc G 1, 1, .inr (.inl (vp_updL fo (0 : Int32).toNatClampNeg (lN64 (oL s (cl t))))))) := by rw [eh2]; exact zup_self _ _ _
    refine v_goto (tgt := 15) C dL_level_9 (by decide) ?_
    refine v_iconst (v := 0) C dL_level_15 (by decide) ?_
    exact v_iret C hQ hr rfl (Nat.le_of_ble_eq_true rfl) (Nat.le_of_ble_eq_true rfl) dL_level_16 (LQ.ok (i := 0) hoc hro ek xz fz eh2 (by decide) rfl)
  · obtain ⟨rfl, w1⟩ := w1
    obtain ⟨ek, rfl⟩ := w1
    refine ⟨12, zCatch_of hto [] (⟨0, 9, 12, 13⟩ : ExceptionTableEntry) [] rfl (fun z hz => absurd hz List.not_mem_nil) rfl (by decide) (hts _ LC_13) (hts _ LK_IO), fun q1 => ?_⟩
    refine v_astore_n C [(3, .ref q1), (0, .ref x), (1, .int t), (2, .ref o)] rfl (by decide) dL_level_12 rfl ?_
    refine v_iconst (v := 1) C dL_level_13 (by decide) ?_
    exact v_iret C hQ hr rfl (Nat.le_of_ble_eq_true rfl) (Nat.le_of_ble_eq_true rfl) dL_level_14 (Or.inr ⟨fun z => by rw [ek] at z; exact absurd z (by decide), by rw [ek]; decide, rfl⟩)
set_option maxHeartbeats 4000000 in
set_option maxRecDepth 100000 in
theorem c_L_value (l : Launch) (hl : l.stackTraces = false) (G : zG) (x o : Nat) (g : XGh) (s : ZS) (t q : Int32) (fo : Nat → Int64) (h : zH) (hi : XI G h g x s) (hw : WFs s) (hoc : oC G h o fo) (hro : qR g o = (0, 0)) : zMetL eI l yL_value cL_value 5 (some .int) [(0, 9, 12, 13)] 16 10 8000 G [.ref x, .int t, .int q, .ref o] h (LQ G h g x o (kIsTQ s t q) s (oV s (cl t) (cl q))) := by
  refine con_ofL hl RL rfl (by decide +kernel) [(0, .ref x), (1, .int t), (2, .int q), (3, .ref o)] rfl (Nat.le_of_ble_eq_true rfl) ?_
  intro zp ze zs zm zargs zbelow zmeth zc C hr hin hto hNc Q hQ
  have hts := C.2.2.2.2.1
  refine v_aload_n C 3 rfl dL_value_0 rfl ?_
  refine v_iconst (v := 0) C dL_value_1 (by decide) ?_
  refine v_aload_n C 0 rfl dL_value_2 rfl ?_
  refine v_iload_n C 1 rfl dL_value_3 rfl ?_
  refine v_iload_n C 2 rfl dL_value_4 rfl ?_
  refine v_callVX (rest := [.int 0, .ref o]) C (c_X4_value l hl G x g s t q h hi hw) K_L_49 hi.1.1.1 rfl rfl (Nat.le_of_ble_eq_true rfl) ⟨Nat.le_of_ble_eq_true rfl, Nat.le_of_ble_eq_true rfl⟩ ⟨Nat.le_of_ble_eq_true rfl, Nat.le_of_ble_eq_true rfl⟩ dL_value_5 (fun r1 h1 w1 => ?_) (fun E1 h1 w1 => ?_)
  · obtain ⟨ek, er1, g2, xz, fz⟩ := w1
    subst er1
    have ho2 := (fz o _ hoc hro).1
    refine v_last C ho2 (show vp_in (0 : Int32) 1 from vpin (n := 0) (N := 1) (by decide) (by decide)) dL_value_8 (v_nw (fun h2 eh2 => ?_))
    have k3 : h2 o = some (.inl (gc G 1, 1, .inr (.inl (vp_updL fo (0 : Int32).toNatClampNeg (oV s (cl t) (cl q)))))) := by rw [eh2]; exact zup_self _ _ _
    refine v_goto (tgt := 16) C dL_value_9 (by decide) ?_
    refine v_iconst (v := 0) C dL_value_16 (by decide) ?_
    exact v_iret C hQ hr rfl (Nat.le_of_ble_eq_true rfl) (Nat.le_of_ble_eq_true rfl) dL_value_17 (LQ.ok (i := 0) hoc hro ek xz fz eh2 (by decide) rfl)
  · obtain ⟨rfl, w1⟩ := w1
    obtain ⟨ek, rfl⟩ := w1
    refine ⟨12, zCatch_of hto [] (⟨0, 9, 12, 13⟩ : ExceptionTableEntry) [] rfl (fun z hz => absurd hz List.not_mem_nil) rfl (by decide) (hts _ LC_13) (hts _ LK_IO), fun q1 => ?_⟩
    refine v_astore C [(4, .ref q1), (0, .ref x), (1, .int t), (2, .int q), (3, .ref o)] rfl (by decide) dL_value_12 ?_
    refine v_iconst (v := 1) C dL_value_14 (by decide) ?_
    exact v_iret C hQ hr rfl (Nat.le_of_ble_eq_true rfl) (Nat.le_of_ble_eq_true rfl) dL_value_15 (Or.inr ⟨fun z => by rw [ek] at z; exact absurd z (by decide), by rw [ek]; decide, rfl⟩)
set_option maxHeartbeats 4000000 in
set_option maxRecDepth 100000 in
theorem c_L_textLength (l : Launch) (hl : l.stackTraces = false) (G : zG) (x o : Nat) (g : XGh) (s : ZS) (t q : Int32) (fo : Nat → Int64) (h : zH) (hi : XI G h g x s) (hw : WFs s) (hoc : oC G h o fo) (hro : qR g o = (0, 0)) : zMetL eI l yL_textLength cL_textLength 5 (some .int) [(0, 10, 13, 13)] 16 10 8000 G [.ref x, .int t, .int q, .ref o] h (LQ G h g x o (kIsTQ s t q) s (Int32.toInt64 (nI (txtOf (tHeld s (cl t) (cl q))).length))) := by
  refine con_ofL hl RL rfl (by decide +kernel) [(0, .ref x), (1, .int t), (2, .int q), (3, .ref o)] rfl (Nat.le_of_ble_eq_true rfl) ?_
  intro zp ze zs zm zargs zbelow zmeth zc C hr hin hto hNc Q hQ
  have hts := C.2.2.2.2.1
  refine v_aload_n C 3 rfl dL_textLength_0 rfl ?_
  refine v_iconst (v := 0) C dL_textLength_1 (by decide) ?_
  refine v_aload_n C 0 rfl dL_textLength_2 rfl ?_
  refine v_iload_n C 1 rfl dL_textLength_3 rfl ?_
  refine v_iload_n C 2 rfl dL_textLength_4 rfl ?_
  refine v_callVX (rest := [.int 0, .ref o]) C (c_X4_textLength l hl G x g s t q h hi hw) K_L_53 hi.1.1.1 rfl rfl (Nat.le_of_ble_eq_true rfl) ⟨Nat.le_of_ble_eq_true rfl, Nat.le_of_ble_eq_true rfl⟩ ⟨Nat.le_of_ble_eq_true rfl, Nat.le_of_ble_eq_true rfl⟩ dL_textLength_5 (fun r1 h1 w1 => ?_) (fun E1 h1 w1 => ?_)
  · obtain ⟨ek, er1, g2, xz, fz⟩ := w1
    subst er1
    have ho2 := (fz o _ hoc hro).1
    refine v_i2l (v := lN64 ((txtOf (tHeld s (cl t) (cl q))).length)) C dL_textLength_8 rfl ?_
    refine v_last C ho2 (show vp_in (0 : Int32) 1 from vpin (n := 0) (N := 1) (by decide) (by decide)) dL_textLength_9 (v_nw (fun h2 eh2 => ?_))
    have k3 : h2 o = some (.inl (gc G 1, 1, .inr (.inl (vp_updL fo (0 : Int32).toNatClampNeg (lN64 ((txtOf (tHeld s (cl t) (cl q))).length)))))) := by rw [eh2]; exact zup_self _ _ _
    refine v_goto (tgt := 17) C dL_textLength_10 (by decide) ?_
    refine v_iconst (v := 0) C dL_textLength_17 (by decide) ?_
    exact v_iret C hQ hr rfl (Nat.le_of_ble_eq_true rfl) (Nat.le_of_ble_eq_true rfl) dL_textLength_18 (LQ.ok (i := 0) hoc hro ek xz fz eh2 (by decide) rfl)
  · obtain ⟨rfl, w1⟩ := w1
    obtain ⟨ek, rfl⟩ := w1
    refine ⟨13, zCatch_of hto [] (⟨0, 10, 13, 13⟩ : ExceptionTableEntry) [] rfl (fun z hz => absurd hz List.not_mem_nil) rfl (by decide) (hts _ LC_13) (hts _ LK_IO), fun q1 => ?_⟩
    refine v_astore C [(4, .ref q1), (0, .ref x), (1, .int t), (2, .int q), (3, .ref o)] rfl (by decide) dL_textLength_13 ?_
    refine v_iconst (v := 1) C dL_textLength_15 (by decide) ?_
    exact v_iret C hQ hr rfl (Nat.le_of_ble_eq_true rfl) (Nat.le_of_ble_eq_true rfl) dL_textLength_16 (Or.inr ⟨fun z => by rw [ek] at z; exact absurd z (by decide), by rw [ek]; decide, rfl⟩)
set_option maxHeartbeats 4000000 in
set_option maxRecDepth 100000 in
theorem c_L_textChar (l : Launch) (hl : l.stackTraces = false) (G : zG) (x o : Nat) (g : XGh) (s : ZS) (t q j : Int32) (fo : Nat → Int64) (h : zH) (hi : XI G h g x s) (hw : WFs s) (hoc : oC G h o fo) (hro : qR g o = (0, 0)) : zMetL eI l yL_textChar cL_textChar 6 (some .int) [(0, 12, 15, 13)] 17 10 8000 G [.ref x, .int t, .int q, .int j, .ref o] h (LQ G h g x o (kChar s t q j) s (Int32.toInt64 (nI ((txtOf (tHeld s (cl t) (cl q))).getD (cl j) 0)))) := by
  refine con_ofL hl RL rfl (by decide +kernel) [(0, .ref x), (1, .int t), (2, .int q), (3, .int j), (4, .ref o)] rfl (Nat.le_of_ble_eq_true rfl) ?_
  intro zp ze zs zm zargs zbelow zmeth zc C hr hin hto hNc Q hQ
  have hts := C.2.2.2.2.1
  refine v_aload C 4 rfl dL_textChar_0 ?_
  refine v_iconst (v := 0) C dL_textChar_2 (by decide) ?_
  refine v_aload_n C 0 rfl dL_textChar_3 rfl ?_
  refine v_iload_n C 1 rfl dL_textChar_4 rfl ?_
  refine v_iload_n C 2 rfl dL_textChar_5 rfl ?_
  refine v_iload_n C 3 rfl dL_textChar_6 rfl ?_
  refine v_callVX (rest := [.int 0, .ref o]) C (c_X4_textChar l hl G x g s t q j h hi hw) K_L_56 hi.1.1.1 rfl rfl (Nat.le_of_ble_eq_true rfl) ⟨Nat.le_of_ble_eq_true rfl, Nat.le_of_ble_eq_true rfl⟩ ⟨Nat.le_of_ble_eq_true rfl, Nat.le_of_ble_eq_true rfl⟩ dL_textChar_7 (fun r1 h1 w1 => ?_) (fun E1 h1 w1 => ?_)
  · obtain ⟨ek, er1, g2, xz, fz⟩ := w1
    subst er1
    have ho2 := (fz o _ hoc hro).1
    refine v_i2l (v := lN64 ((txtOf (tHeld s (cl t) (cl q))).getD (cl j) 0)) C dL_textChar_10 rfl ?_
    refine v_last C ho2 (show vp_in (0 : Int32) 1 from vpin (n := 0) (N := 1) (by decide) (by decide)) dL_textChar_11 (v_nw (fun h2 eh2 => ?_))
    have k3 : h2 o = some (.inl (gc G 1, 1, .inr (.inl (vp_updL fo (0 : Int32).toNatClampNeg (lN64 ((txtOf (tHeld s (cl t) (cl q))).getD (cl j) 0)))))) := by rw [eh2]; exact zup_self _ _ _
    refine v_goto (tgt := 19) C dL_textChar_12 (by decide) ?_
    refine v_iconst (v := 0) C dL_textChar_19 (by decide) ?_
    exact v_iret C hQ hr rfl (Nat.le_of_ble_eq_true rfl) (Nat.le_of_ble_eq_true rfl) dL_textChar_20 (LQ.ok (i := 0) hoc hro ek xz fz eh2 (by decide) rfl)
  · obtain ⟨rfl, w1⟩ := w1
    obtain ⟨ek, rfl⟩ := w1
    refine ⟨15, zCatch_of hto [] (⟨0, 12, 15, 13⟩ : ExceptionTableEntry) [] rfl (fun z hz => absurd hz List.not_mem_nil) rfl (by decide) (hts _ LC_13) (hts _ LK_IO), fun q1 => ?_⟩
    refine v_astore C [(5, .ref q1), (0, .ref x), (1, .int t), (2, .int q), (3, .int j), (4, .ref o)] rfl (by decide) dL_textChar_15 ?_
    refine v_iconst (v := 1) C dL_textChar_17 (by decide) ?_
    exact v_iret C hQ hr rfl (Nat.le_of_ble_eq_true rfl) (Nat.le_of_ble_eq_true rfl) dL_textChar_18 (Or.inr ⟨fun z => by rw [ek] at z; exact absurd z (by decide), by rw [ek]; decide, rfl⟩)
set_option maxHeartbeats 4000000 in
set_option maxRecDepth 100000 in
theorem c_L_test (l : Launch) (hl : l.stackTraces = false) (G : zG) (x o : Nat) (g : XGh) (s : ZS) (a b : Int32) (fo : Nat → Int64) (h : zH) (hi : XI G h g x s) (hw : WFs s) (hoc : oC G h o fo) (hro : qR g o = (0, 0)) : zMetL eI l yL_test cL_test 5 (some .int) [(0, 10, 13, 13), (0, 10, 17, 21)] 17 10 8000 G [.ref x, .int a, .int b, .ref o] h (LQ G h g x o (kTest s a b) (nTest s a b) (Int32.toInt64 (nI (rN s)))) := by
  refine con_ofL hl RL rfl (by decide +kernel) [(0, .ref x), (1, .int a), (2, .int b), (3, .ref o)] rfl (Nat.le_of_ble_eq_true rfl) ?_
  intro zp ze zs zm zargs zbelow zmeth zc C hr hin hto hNc Q hQ
  have hts := C.2.2.2.2.1
  refine v_aload_n C 3 rfl dL_test_0 rfl ?_
  refine v_iconst (v := 0) C dL_test_1 (by decide) ?_
  refine v_aload_n C 0 rfl dL_test_2 rfl ?_
  refine v_iload_n C 1 rfl dL_test_3 rfl ?_
  refine v_iload_n C 2 rfl dL_test_4 rfl ?_
  refine v_callVX (rest := [.int 0, .ref o]) C (c_X4_test l hl G x g s a b h hi hw) K_L_60 hi.1.1.1 rfl rfl (Nat.le_of_ble_eq_true rfl) ⟨Nat.le_of_ble_eq_true rfl, Nat.le_of_ble_eq_true rfl⟩ ⟨Nat.le_of_ble_eq_true rfl, Nat.le_of_ble_eq_true rfl⟩ dL_test_5 (fun r1 h1 w1 => ?_) (fun E1 h1 w1 => ?_)
  · obtain ⟨ek, er1, g2, xz, fz⟩ := w1
    subst er1
    have ho2 := (fz o _ hoc hro).1
    refine v_i2l (v := lN64 (rN s)) C dL_test_8 rfl ?_
    refine v_last C ho2 (show vp_in (0 : Int32) 1 from vpin (n := 0) (N := 1) (by decide) (by decide)) dL_test_9 (v_nw (fun h2 eh2 => ?_))
    have k3 : h2 o = some (.inl (gc G 1, 1, .inr (.inl (vp_updL fo (0 : Int32).toNatClampNeg (lN64 (rN s)))))) := by rw [eh2]; exact zup_self _ _ _
    refine v_goto (tgt := 21) C dL_test_10 (by decide) ?_
    refine v_iconst (v := 0) C dL_test_21 (by decide) ?_
    exact v_iret C hQ hr rfl (Nat.le_of_ble_eq_true rfl) (Nat.le_of_ble_eq_true rfl) dL_test_22 (LQ.ok (i := 0) hoc hro ek xz fz eh2 (by decide) rfl)
  · obtain ⟨rfl, w1⟩ := w1
    rcases w1 with ⟨ek, rfl⟩ | ⟨ek, rfl⟩
    · refine ⟨13, zCatch_of hto [] (⟨0, 10, 13, 13⟩ : ExceptionTableEntry) [(⟨0, 10, 17, 21⟩ : ExceptionTableEntry)] rfl (fun z hz => absurd hz List.not_mem_nil) rfl (by decide) (hts _ LC_13) (hts _ LK_IO), fun q1 => ?_⟩
      refine v_astore C [(4, .ref q1), (0, .ref x), (1, .int a), (2, .int b), (3, .ref o)] rfl (by decide) dL_test_13 ?_
      refine v_iconst (v := 1) C dL_test_15 (by decide) ?_
      exact v_iret C hQ hr rfl (Nat.le_of_ble_eq_true rfl) (Nat.le_of_ble_eq_true rfl) dL_test_16 (Or.inr ⟨fun z => by rw [ek] at z; exact absurd z (by decide), by rw [ek]; decide, rfl⟩)
    · refine ⟨17, zCatch_of hto [(⟨0, 10, 13, 13⟩ : ExceptionTableEntry)] (⟨0, 10, 17, 21⟩ : ExceptionTableEntry) [] rfl (List.forall_mem_cons.mpr ⟨⟨by decide, _, hts _ LC_13, hNc.2.1⟩, (fun z hz => absurd hz List.not_mem_nil)⟩) rfl (by decide) (hts _ LC_21) (hts _ LK_IS), fun q1 => ?_⟩
      refine v_astore C [(4, .ref q1), (0, .ref x), (1, .int a), (2, .int b), (3, .ref o)] rfl (by decide) dL_test_17 ?_
      refine v_iconst (v := 2) C dL_test_19 (by decide) ?_
      exact v_iret C hQ hr rfl (Nat.le_of_ble_eq_true rfl) (Nat.le_of_ble_eq_true rfl) dL_test_20 (Or.inr ⟨fun z => by rw [ek] at z; exact absurd z (by decide), by rw [ek]; decide, rfl⟩)
set_option maxHeartbeats 4000000 in
set_option maxRecDepth 100000 in
theorem c_L_limit (l : Launch) (hl : l.stackTraces = false) (G : zG) (x o : Nat) (g : XGh) (s : ZS) (r q v : Int32) (fo : Nat → Int64) (h : zH) (hi : XI G h g x s) (hw : WFs s) (hoc : oC G h o fo) (hro : qR g o = (0, 0)) : zMetL eI l yL_limit cL_limit 6 (some .int) [(0, 12, 15, 13), (0, 12, 19, 15)] 16 10 8000 G [.ref x, .int r, .int q, .int v, .ref o] h (LQ G h g x o (kLimit s r q v) (nLimit s r q v) (Int32.toInt64 (nI (cnt (fun z => decide (¬ rL (nLimit s r q v) (cl r) z = -1)) 20)))) := by
  refine con_ofL hl RL rfl (by decide +kernel) [(0, .ref x), (1, .int r), (2, .int q), (3, .int v), (4, .ref o)] rfl (Nat.le_of_ble_eq_true rfl) ?_
  intro zp ze zs zm zargs zbelow zmeth zc C hr hin hto hNc Q hQ
  have hts := C.2.2.2.2.1
  refine v_aload C 4 rfl dL_limit_0 ?_
  refine v_iconst (v := 0) C dL_limit_2 (by decide) ?_
  refine v_aload_n C 0 rfl dL_limit_3 rfl ?_
  refine v_iload_n C 1 rfl dL_limit_4 rfl ?_
  refine v_iload_n C 2 rfl dL_limit_5 rfl ?_
  refine v_iload_n C 3 rfl dL_limit_6 rfl ?_
  refine v_callVX (rest := [.int 0, .ref o]) C (c_X4_limit l hl G x g s r q v h hi hw) K_L_63 hi.1.1.1 rfl rfl (Nat.le_of_ble_eq_true rfl) ⟨Nat.le_of_ble_eq_true rfl, Nat.le_of_ble_eq_true rfl⟩ ⟨Nat.le_of_ble_eq_true rfl, Nat.le_of_ble_eq_true rfl⟩ dL_limit_7 (fun r1 h1 w1 => ?_) (fun E1 h1 w1 => ?_)
  · obtain ⟨ek, er1, g2, xz, fz⟩ := w1
    subst er1
    have ho2 := (fz o _ hoc hro).1
    refine v_i2l (v := lN64 (cnt (fun z => decide (¬ rL (nLimit s r q v) (cl r) z = -1)) 20)) C dL_limit_10 rfl ?_
    refine v_last C ho2 (show vp_in (0 : Int32) 1 from vpin (n := 0) (N := 1) (by decide) (by decide)) dL_limit_11 (v_nw (fun h2 eh2 => ?_))
    have k3 : h2 o = some (.inl (gc G 1, 1, .inr (.inl (vp_updL fo (0 : Int32).toNatClampNeg (lN64 (cnt (fun z => decide (¬ rL (nLimit s r q v) (cl r) z = -1)) 20)))))) := by rw [eh2]; exact zup_self _ _ _
    refine v_goto (tgt := 23) C dL_limit_12 (by decide) ?_
    refine v_iconst (v := 0) C dL_limit_23 (by decide) ?_
    exact v_iret C hQ hr rfl (Nat.le_of_ble_eq_true rfl) (Nat.le_of_ble_eq_true rfl) dL_limit_24 (LQ.ok (i := 0) hoc hro ek xz fz eh2 (by decide) rfl)
  · obtain ⟨rfl, w1⟩ := w1
    rcases w1 with ⟨ek, rfl⟩ | ⟨ek, rfl⟩
    · refine ⟨15, zCatch_of hto [] (⟨0, 12, 15, 13⟩ : ExceptionTableEntry) [(⟨0, 12, 19, 15⟩ : ExceptionTableEntry)] rfl (fun z hz => absurd hz List.not_mem_nil) rfl (by decide) (hts _ LC_13) (hts _ LK_IO), fun q1 => ?_⟩
      refine v_astore C [(5, .ref q1), (0, .ref x), (1, .int r), (2, .int q), (3, .int v), (4, .ref o)] rfl (by decide) dL_limit_15 ?_
      refine v_iconst (v := 1) C dL_limit_17 (by decide) ?_
      exact v_iret C hQ hr rfl (Nat.le_of_ble_eq_true rfl) (Nat.le_of_ble_eq_true rfl) dL_limit_18 (Or.inr ⟨fun z => by rw [ek] at z; exact absurd z (by decide), by rw [ek]; decide, rfl⟩)
    · refine ⟨19, zCatch_of hto [(⟨0, 12, 15, 13⟩ : ExceptionTableEntry)] (⟨0, 12, 19, 15⟩ : ExceptionTableEntry) [] rfl (List.forall_mem_cons.mpr ⟨⟨by decide, _, hts _ LC_13, hNc.1⟩, (fun z hz => absurd hz List.not_mem_nil)⟩) rfl (by decide) (hts _ LC_15) (hts _ LK_IA), fun q1 => ?_⟩
      refine v_astore C [(5, .ref q1), (0, .ref x), (1, .int r), (2, .int q), (3, .int v), (4, .ref o)] rfl (by decide) dL_limit_19 ?_
      refine v_iconst (v := 2) C dL_limit_21 (by decide) ?_
      exact v_iret C hQ hr rfl (Nat.le_of_ble_eq_true rfl) (Nat.le_of_ble_eq_true rfl) dL_limit_22 (Or.inr ⟨fun z => by rw [ek] at z; exact absurd z (by decide), by rw [ek]; decide, rfl⟩)
set_option maxHeartbeats 4000000 in
set_option maxRecDepth 100000 in
theorem c_L_wake (l : Launch) (hl : l.stackTraces = false) (G : zG) (x o : Nat) (g : XGh) (s : ZS) (r a v : Int32) (fo : Nat → Int64) (h : zH) (hi : XI G h g x s) (hw : WFs s) (hoc : oC G h o fo) (hro : qR g o = (0, 0)) : zMetL eI l yL_wake cL_wake 6 (some .int) [(0, 12, 15, 13), (0, 12, 19, 15)] 16 10 8000 G [.ref x, .int r, .int a, .int v, .ref o] h (LQ G h g x o (kWake s r a v) (nWake s r a v) (Int32.toInt64 (rW s (cl r)))) := by
  refine con_ofL hl RL rfl (by decide +kernel) [(0, .ref x), (1, .int r), (2, .int a), (3, .int v), (4, .ref o)] rfl (Nat.le_of_ble_eq_true rfl) ?_
  intro zp ze zs zm zargs zbelow zmeth zc C hr hin hto hNc Q hQ
  have hts := C.2.2.2.2.1
  refine v_aload C 4 rfl dL_wake_0 ?_
  refine v_iconst (v := 0) C dL_wake_2 (by decide) ?_
  refine v_aload_n C 0 rfl dL_wake_3 rfl ?_
  refine v_iload_n C 1 rfl dL_wake_4 rfl ?_
  refine v_iload_n C 2 rfl dL_wake_5 rfl ?_
  refine v_iload_n C 3 rfl dL_wake_6 rfl ?_
  refine v_callVX (rest := [.int 0, .ref o]) C (c_X4_wake l hl G x g s r a v h hi hw) K_L_66 hi.1.1.1 rfl rfl (Nat.le_of_ble_eq_true rfl) ⟨Nat.le_of_ble_eq_true rfl, Nat.le_of_ble_eq_true rfl⟩ ⟨Nat.le_of_ble_eq_true rfl, Nat.le_of_ble_eq_true rfl⟩ dL_wake_7 (fun r1 h1 w1 => ?_) (fun E1 h1 w1 => ?_)
  · obtain ⟨ek, er1, g2, xz, fz⟩ := w1
    subst er1
    have ho2 := (fz o _ hoc hro).1
    refine v_i2l (v := ((rW s (cl r)) : Int32).toInt64) C dL_wake_10 rfl ?_
    refine v_last C ho2 (show vp_in (0 : Int32) 1 from vpin (n := 0) (N := 1) (by decide) (by decide)) dL_wake_11 (v_nw (fun h2 eh2 => ?_))
    have k3 : h2 o = some (.inl (gc G 1, 1, .inr (.inl (vp_updL fo (0 : Int32).toNatClampNeg (Int32.toInt64 (rW s (cl r))))))) := by rw [eh2]; exact zup_self _ _ _
    refine v_goto (tgt := 23) C dL_wake_12 (by decide) ?_
    refine v_iconst (v := 0) C dL_wake_23 (by decide) ?_
    exact v_iret C hQ hr rfl (Nat.le_of_ble_eq_true rfl) (Nat.le_of_ble_eq_true rfl) dL_wake_24 (LQ.ok (i := 0) hoc hro ek xz fz eh2 (by decide) rfl)
  · obtain ⟨rfl, w1⟩ := w1
    rcases w1 with ⟨ek, rfl⟩ | ⟨ek, rfl⟩
    · refine ⟨15, zCatch_of hto [] (⟨0, 12, 15, 13⟩ : ExceptionTableEntry) [(⟨0, 12, 19, 15⟩ : ExceptionTableEntry)] rfl (fun z hz => absurd hz List.not_mem_nil) rfl (by decide) (hts _ LC_13) (hts _ LK_IO), fun q1 => ?_⟩
      refine v_astore C [(5, .ref q1), (0, .ref x), (1, .int r), (2, .int a), (3, .int v), (4, .ref o)] rfl (by decide) dL_wake_15 ?_
      refine v_iconst (v := 1) C dL_wake_17 (by decide) ?_
      exact v_iret C hQ hr rfl (Nat.le_of_ble_eq_true rfl) (Nat.le_of_ble_eq_true rfl) dL_wake_18 (Or.inr ⟨fun z => by rw [ek] at z; exact absurd z (by decide), by rw [ek]; decide, rfl⟩)
    · refine ⟨19, zCatch_of hto [(⟨0, 12, 15, 13⟩ : ExceptionTableEntry)] (⟨0, 12, 19, 15⟩ : ExceptionTableEntry) [] rfl (List.forall_mem_cons.mpr ⟨⟨by decide, _, hts _ LC_13, hNc.1⟩, (fun z hz => absurd hz List.not_mem_nil)⟩) rfl (by decide) (hts _ LC_15) (hts _ LK_IA), fun q1 => ?_⟩
      refine v_astore C [(5, .ref q1), (0, .ref x), (1, .int r), (2, .int a), (3, .int v), (4, .ref o)] rfl (by decide) dL_wake_19 ?_
      refine v_iconst (v := 2) C dL_wake_21 (by decide) ?_
      exact v_iret C hQ hr rfl (Nat.le_of_ble_eq_true rfl) (Nat.le_of_ble_eq_true rfl) dL_wake_22 (Or.inr ⟨fun z => by rw [ek] at z; exact absurd z (by decide), by rw [ek]; decide, rfl⟩)
set_option maxHeartbeats 4000000 in
set_option maxRecDepth 100000 in
theorem c_L_cure (l : Launch) (hl : l.stackTraces = false) (G : zG) (x o : Nat) (g : XGh) (s : ZS) (r q v : Int32) (fo : Nat → Int64) (h : zH) (hi : XI G h g x s) (hw : WFs s) (hoc : oC G h o fo) (hro : qR g o = (0, 0)) : zMetL eI l yL_cure cL_cure 6 (some .int) [(0, 12, 15, 13), (0, 12, 19, 15), (0, 12, 23, 21)] 16 10 8000 G [.ref x, .int r, .int q, .int v, .ref o] h (LQ G h g x o (kCure s r q v) (nCure s r q v) (Int32.toInt64 (nI (cnt (fun z => decide (¬ rC (nCure s r q v) (cl r) z = 0)) 20)))) := by
  refine con_ofL hl RL rfl (by decide +kernel) [(0, .ref x), (1, .int r), (2, .int q), (3, .int v), (4, .ref o)] rfl (Nat.le_of_ble_eq_true rfl) ?_
  intro zp ze zs zm zargs zbelow zmeth zc C hr hin hto hNc Q hQ
  have hts := C.2.2.2.2.1
  refine v_aload C 4 rfl dL_cure_0 ?_
  refine v_iconst (v := 0) C dL_cure_2 (by decide) ?_
  refine v_aload_n C 0 rfl dL_cure_3 rfl ?_
  refine v_iload_n C 1 rfl dL_cure_4 rfl ?_
  refine v_iload_n C 2 rfl dL_cure_5 rfl ?_
  refine v_iload_n C 3 rfl dL_cure_6 rfl ?_
  refine v_callVX (rest := [.int 0, .ref o]) C (c_X4_cure l hl G x g s r q v h hi hw) K_L_69 hi.1.1.1 rfl rfl (Nat.le_of_ble_eq_true rfl) ⟨Nat.le_of_ble_eq_true rfl, Nat.le_of_ble_eq_true rfl⟩ ⟨Nat.le_of_ble_eq_true rfl, Nat.le_of_ble_eq_true rfl⟩ dL_cure_7 (fun r1 h1 w1 => ?_) (fun E1 h1 w1 => ?_)
  · obtain ⟨ek, er1, g2, xz, fz⟩ := w1
    subst er1
    have ho2 := (fz o _ hoc hro).1
    refine v_i2l (v := lN64 (cnt (fun z => decide (¬ rC (nCure s r q v) (cl r) z = 0)) 20)) C dL_cure_10 rfl ?_
    refine v_last C ho2 (show vp_in (0 : Int32) 1 from vpin (n := 0) (N := 1) (by decide) (by decide)) dL_cure_11 (v_nw (fun h2 eh2 => ?_))
    have k3 : h2 o = some (.inl (gc G 1, 1, .inr (.inl (vp_updL fo (0 : Int32).toNatClampNeg (lN64 (cnt (fun z => decide (¬ rC (nCure s r q v) (cl r) z = 0)) 20)))))) := by rw [eh2]; exact zup_self _ _ _
    refine v_goto (tgt := 27) C dL_cure_12 (by decide) ?_
    refine v_iconst (v := 0) C dL_cure_27 (by decide) ?_
    exact v_iret C hQ hr rfl (Nat.le_of_ble_eq_true rfl) (Nat.le_of_ble_eq_true rfl) dL_cure_28 (LQ.ok (i := 0) hoc hro ek xz fz eh2 (by decide) rfl)
  · obtain ⟨rfl, w1⟩ := w1
    rcases w1 with ⟨ek, rfl⟩ | ⟨ek, rfl⟩ | ⟨ek, rfl⟩
    · refine ⟨15, zCatch_of hto [] (⟨0, 12, 15, 13⟩ : ExceptionTableEntry) [(⟨0, 12, 19, 15⟩ : ExceptionTableEntry), (⟨0, 12, 23, 21⟩ : ExceptionTableEntry)] rfl (fun z hz => absurd hz List.not_mem_nil) rfl (by decide) (hts _ LC_13) (hts _ LK_IO), fun q1 => ?_⟩
      refine v_astore C [(5, .ref q1), (0, .ref x), (1, .int r), (2, .int q), (3, .int v), (4, .ref o)] rfl (by decide) dL_cure_15 ?_
      refine v_iconst (v := 1) C dL_cure_17 (by decide) ?_
      exact v_iret C hQ hr rfl (Nat.le_of_ble_eq_true rfl) (Nat.le_of_ble_eq_true rfl) dL_cure_18 (Or.inr ⟨fun z => by rw [ek] at z; exact absurd z (by decide), by rw [ek]; decide, rfl⟩)
    · refine ⟨19, zCatch_of hto [(⟨0, 12, 15, 13⟩ : ExceptionTableEntry)] (⟨0, 12, 19, 15⟩ : ExceptionTableEntry) [(⟨0, 12, 23, 21⟩ : ExceptionTableEntry)] rfl (List.forall_mem_cons.mpr ⟨⟨by decide, _, hts _ LC_13, hNc.1⟩, (fun z hz => absurd hz List.not_mem_nil)⟩) rfl (by decide) (hts _ LC_15) (hts _ LK_IA), fun q1 => ?_⟩
      refine v_astore C [(5, .ref q1), (0, .ref x), (1, .int r), (2, .int q), (3, .int v), (4, .ref o)] rfl (by decide) dL_cure_19 ?_
      refine v_iconst (v := 2) C dL_cure_21 (by decide) ?_
      exact v_iret C hQ hr rfl (Nat.le_of_ble_eq_true rfl) (Nat.le_of_ble_eq_true rfl) dL_cure_22 (Or.inr ⟨fun z => by rw [ek] at z; exact absurd z (by decide), by rw [ek]; decide, rfl⟩)
    · refine ⟨23, zCatch_of hto [(⟨0, 12, 15, 13⟩ : ExceptionTableEntry), (⟨0, 12, 19, 15⟩ : ExceptionTableEntry)] (⟨0, 12, 23, 21⟩ : ExceptionTableEntry) [] rfl (List.forall_mem_cons.mpr ⟨⟨by decide, _, hts _ LC_13, hNc.2.1⟩, (List.forall_mem_cons.mpr ⟨⟨by decide, _, hts _ LC_15, hNc.2.2.1⟩, (fun z hz => absurd hz List.not_mem_nil)⟩)⟩) rfl (by decide) (hts _ LC_21) (hts _ LK_IS), fun q1 => ?_⟩
      refine v_astore C [(5, .ref q1), (0, .ref x), (1, .int r), (2, .int q), (3, .int v), (4, .ref o)] rfl (by decide) dL_cure_23 ?_
      refine v_iconst (v := 3) C dL_cure_25 (by decide) ?_
      exact v_iret C hQ hr rfl (Nat.le_of_ble_eq_true rfl) (Nat.le_of_ble_eq_true rfl) dL_cure_26 (Or.inr ⟨fun z => by rw [ek] at z; exact absurd z (by decide), by rw [ek]; decide, rfl⟩)
set_option maxHeartbeats 4000000 in
set_option maxRecDepth 100000 in
theorem c_L_waive (l : Launch) (hl : l.stackTraces = false) (G : zG) (x o : Nat) (g : XGh) (s : ZS) (r q : Int32) (fo : Nat → Int64) (h : zH) (hi : XI G h g x s) (hw : WFs s) (hoc : oC G h o fo) (hro : qR g o = (0, 0)) : zMetL eI l yL_waive cL_waive 5 (some .int) [(0, 17, 20, 13)] 16 10 8000 G [.ref x, .int r, .int q, .ref o] h (LQ G h g x o (kIsRQ s r q) (nWaive s r q) (Int32.toInt64 (b01 (!(rV s (cl r) (cl q)))))) := by
  refine con_ofL hl RL rfl (by decide +kernel) [(0, .ref x), (1, .int r), (2, .int q), (3, .ref o)] rfl (Nat.le_of_ble_eq_true rfl) ?_
  intro zp ze zs zm zargs zbelow zmeth zc C hr hin hto hNc Q hQ
  have hts := C.2.2.2.2.1
  refine v_aload_n C 3 rfl dL_waive_0 rfl ?_
  refine v_iconst (v := 0) C dL_waive_1 (by decide) ?_
  refine v_aload_n C 0 rfl dL_waive_2 rfl ?_
  refine v_iload_n C 1 rfl dL_waive_3 rfl ?_
  refine v_iload_n C 2 rfl dL_waive_4 rfl ?_
  refine v_callVX (rest := [.int 0, .ref o]) C (c_X4_waive l hl G x g s r q h hi hw) K_L_72 hi.1.1.1 rfl rfl (Nat.le_of_ble_eq_true rfl) ⟨Nat.le_of_ble_eq_true rfl, Nat.le_of_ble_eq_true rfl⟩ ⟨Nat.le_of_ble_eq_true rfl, Nat.le_of_ble_eq_true rfl⟩ dL_waive_5 (fun r1 h1 w1 => ?_) (fun E1 h1 w1 => ?_)
  · obtain ⟨ek, er1, g2, xz, fz⟩ := w1
    subst er1
    have ho2 := (fz o _ hoc hro).1
    rcases hbb : (!(rV s (cl r) (cl q))) with _ | _
    · refine v_if_eq (tgt := 15) C dL_waive_8 (by decide) (fun c2 => ?_) (fun c2 => absurd c2 (by decide))
      refine v_lconst (v := 0) C dL_waive_15 (by decide) ?_
      refine v_last C ho2 (show vp_in (0 : Int32) 1 from vpin (n := 0) (N := 1) (by decide) (by decide)) dL_waive_16 (v_nw (fun h3 eh3 => ?_))
      have k4 : h3 o = some (.inl (gc G 1, 1, .inr (.inl (vp_updL fo (0 : Int32).toNatClampNeg 0)))) := by rw [eh3]; exact zup_self _ _ _
      refine v_goto (tgt := 24) C dL_waive_17 (by decide) ?_
      refine v_iconst (v := 0) C dL_waive_24 (by decide) ?_
      exact v_iret C hQ hr rfl (Nat.le_of_ble_eq_true rfl) (Nat.le_of_ble_eq_true rfl) dL_waive_25 (LQ.ok (i := 0) hoc hro ek xz fz eh3 (by decide) (by rw [hbb]; rfl))
    · refine v_if_eq (tgt := 15) C dL_waive_8 (by decide) (fun c5 => absurd c5 (by decide)) (fun c5 => ?_)
      refine v_lconst (v := 1) C dL_waive_11 (by decide) ?_
      refine v_goto (tgt := 16) C dL_waive_12 (by decide) ?_
      refine v_last C ho2 (show vp_in (0 : Int32) 1 from vpin (n := 0) (N := 1) (by decide) (by decide)) dL_waive_16 (v_nw (fun h6 eh6 => ?_))
      have k7 : h6 o = some (.inl (gc G 1, 1, .inr (.inl (vp_updL fo (0 : Int32).toNatClampNeg 1)))) := by rw [eh6]; exact zup_self _ _ _
      refine v_goto (tgt := 24) C dL_waive_17 (by decide) ?_
      refine v_iconst (v := 0) C dL_waive_24 (by decide) ?_
      exact v_iret C hQ hr rfl (Nat.le_of_ble_eq_true rfl) (Nat.le_of_ble_eq_true rfl) dL_waive_25 (LQ.ok (i := 0) hoc hro ek xz fz eh6 (by decide) (by rw [hbb]; rfl))
  · obtain ⟨rfl, w1⟩ := w1
    obtain ⟨ek, rfl⟩ := w1
    refine ⟨20, zCatch_of hto [] (⟨0, 17, 20, 13⟩ : ExceptionTableEntry) [] rfl (fun z hz => absurd hz List.not_mem_nil) rfl (by decide) (hts _ LC_13) (hts _ LK_IO), fun q1 => ?_⟩
    refine v_astore C [(4, .ref q1), (0, .ref x), (1, .int r), (2, .int q), (3, .ref o)] rfl (by decide) dL_waive_20 ?_
    refine v_iconst (v := 1) C dL_waive_22 (by decide) ?_
    exact v_iret C hQ hr rfl (Nat.le_of_ble_eq_true rfl) (Nat.le_of_ble_eq_true rfl) dL_waive_23 (Or.inr ⟨fun z => by rw [ek] at z; exact absurd z (by decide), by rw [ek]; decide, rfl⟩)
set_option maxHeartbeats 4000000 in
set_option maxRecDepth 100000 in
theorem c_L_state (l : Launch) (hl : l.stackTraces = false) (G : zG) (x o : Nat) (g : XGh) (s : ZS) (r q : Int32) (fo : Nat → Int64) (h : zH) (hi : XI G h g x s) (hw : WFs s) (hoc : oC G h o fo) (hro : qR g o = (0, 0)) : zMetL eI l yL_state cL_state 5 (some .int) [(0, 10, 13, 13)] 16 10 8000 G [.ref x, .int r, .int q, .ref o] h (LQ G h g x o (kIsRQ s r q) s (Int32.toInt64 (nI (vState s (cl r) (cl q))))) := by
  refine con_ofL hl RL rfl (by decide +kernel) [(0, .ref x), (1, .int r), (2, .int q), (3, .ref o)] rfl (Nat.le_of_ble_eq_true rfl) ?_
  intro zp ze zs zm zargs zbelow zmeth zc C hr hin hto hNc Q hQ
  have hts := C.2.2.2.2.1
  refine v_aload_n C 3 rfl dL_state_0 rfl ?_
  refine v_iconst (v := 0) C dL_state_1 (by decide) ?_
  refine v_aload_n C 0 rfl dL_state_2 rfl ?_
  refine v_iload_n C 1 rfl dL_state_3 rfl ?_
  refine v_iload_n C 2 rfl dL_state_4 rfl ?_
  refine v_callVX (rest := [.int 0, .ref o]) C (c_X4_state l hl G x g s r q h hi hw) K_L_76 hi.1.1.1 rfl rfl (Nat.le_of_ble_eq_true rfl) ⟨Nat.le_of_ble_eq_true rfl, Nat.le_of_ble_eq_true rfl⟩ ⟨Nat.le_of_ble_eq_true rfl, Nat.le_of_ble_eq_true rfl⟩ dL_state_5 (fun r1 h1 w1 => ?_) (fun E1 h1 w1 => ?_)
  · obtain ⟨ek, er1, g2, xz, fz⟩ := w1
    subst er1
    have ho2 := (fz o _ hoc hro).1
    refine v_i2l (v := lN64 (vState s (cl r) (cl q))) C dL_state_8 rfl ?_
    refine v_last C ho2 (show vp_in (0 : Int32) 1 from vpin (n := 0) (N := 1) (by decide) (by decide)) dL_state_9 (v_nw (fun h2 eh2 => ?_))
    have k3 : h2 o = some (.inl (gc G 1, 1, .inr (.inl (vp_updL fo (0 : Int32).toNatClampNeg (lN64 (vState s (cl r) (cl q))))))) := by rw [eh2]; exact zup_self _ _ _
    refine v_goto (tgt := 17) C dL_state_10 (by decide) ?_
    refine v_iconst (v := 0) C dL_state_17 (by decide) ?_
    exact v_iret C hQ hr rfl (Nat.le_of_ble_eq_true rfl) (Nat.le_of_ble_eq_true rfl) dL_state_18 (LQ.ok (i := 0) hoc hro ek xz fz eh2 (by decide) rfl)
  · obtain ⟨rfl, w1⟩ := w1
    obtain ⟨ek, rfl⟩ := w1
    refine ⟨13, zCatch_of hto [] (⟨0, 10, 13, 13⟩ : ExceptionTableEntry) [] rfl (fun z hz => absurd hz List.not_mem_nil) rfl (by decide) (hts _ LC_13) (hts _ LK_IO), fun q1 => ?_⟩
    refine v_astore C [(4, .ref q1), (0, .ref x), (1, .int r), (2, .int q), (3, .ref o)] rfl (by decide) dL_state_13 ?_
    refine v_iconst (v := 1) C dL_state_15 (by decide) ?_
    exact v_iret C hQ hr rfl (Nat.le_of_ble_eq_true rfl) (Nat.le_of_ble_eq_true rfl) dL_state_16 (Or.inr ⟨fun z => by rw [ek] at z; exact absurd z (by decide), by rw [ek]; decide, rfl⟩)
set_option maxHeartbeats 4000000 in
set_option maxRecDepth 100000 in
theorem c_L_room (l : Launch) (hl : l.stackTraces = false) (G : zG) (x o : Nat) (g : XGh) (s : ZS) (r q : Int32) (fo : Nat → Int64) (h : zH) (hi : XI G h g x s) (hw : WFs s) (hoc : oC G h o fo) (hro : qR g o = (0, 0)) : zMetL eI l yL_room cL_room 5 (some .int) [(0, 9, 12, 13), (0, 9, 16, 21)] 16 10 8000 G [.ref x, .int r, .int q, .ref o] h (LQ G h g x o (kRoom s r q) s (vRoom s (cl r) (cl q))) := by
  refine con_ofL hl RL rfl (by decide +kernel) [(0, .ref x), (1, .int r), (2, .int q), (3, .ref o)] rfl (Nat.le_of_ble_eq_true rfl) ?_
  intro zp ze zs zm zargs zbelow zmeth zc C hr hin hto hNc Q hQ
  have hts := C.2.2.2.2.1
  refine v_aload_n C 3 rfl dL_room_0 rfl ?_
  refine v_iconst (v := 0) C dL_room_1 (by decide) ?_
  refine v_aload_n C 0 rfl dL_room_2 rfl ?_
  refine v_iload_n C 1 rfl dL_room_3 rfl ?_
  refine v_iload_n C 2 rfl dL_room_4 rfl ?_
  refine v_callVX (rest := [.int 0, .ref o]) C (c_X4_room l hl G x g s r q h hi hw) K_L_79 hi.1.1.1 rfl rfl (Nat.le_of_ble_eq_true rfl) ⟨Nat.le_of_ble_eq_true rfl, Nat.le_of_ble_eq_true rfl⟩ ⟨Nat.le_of_ble_eq_true rfl, Nat.le_of_ble_eq_true rfl⟩ dL_room_5 (fun r1 h1 w1 => ?_) (fun E1 h1 w1 => ?_)
  · obtain ⟨ek, er1, g2, xz, fz⟩ := w1
    subst er1
    have ho2 := (fz o _ hoc hro).1
    refine v_last C ho2 (show vp_in (0 : Int32) 1 from vpin (n := 0) (N := 1) (by decide) (by decide)) dL_room_8 (v_nw (fun h2 eh2 => ?_))
    have k3 : h2 o = some (.inl (gc G 1, 1, .inr (.inl (vp_updL fo (0 : Int32).toNatClampNeg (vRoom s (cl r) (cl q)))))) := by rw [eh2]; exact zup_self _ _ _
    refine v_goto (tgt := 20) C dL_room_9 (by decide) ?_
    refine v_iconst (v := 0) C dL_room_20 (by decide) ?_
    exact v_iret C hQ hr rfl (Nat.le_of_ble_eq_true rfl) (Nat.le_of_ble_eq_true rfl) dL_room_21 (LQ.ok (i := 0) hoc hro ek xz fz eh2 (by decide) rfl)
  · obtain ⟨rfl, w1⟩ := w1
    rcases w1 with ⟨ek, rfl⟩ | ⟨ek, rfl⟩
    · refine ⟨12, zCatch_of hto [] (⟨0, 9, 12, 13⟩ : ExceptionTableEntry) [(⟨0, 9, 16, 21⟩ : ExceptionTableEntry)] rfl (fun z hz => absurd hz List.not_mem_nil) rfl (by decide) (hts _ LC_13) (hts _ LK_IO), fun q1 => ?_⟩
      refine v_astore C [(4, .ref q1), (0, .ref x), (1, .int r), (2, .int q), (3, .ref o)] rfl (by decide) dL_room_12 ?_
      refine v_iconst (v := 1) C dL_room_14 (by decide) ?_
      exact v_iret C hQ hr rfl (Nat.le_of_ble_eq_true rfl) (Nat.le_of_ble_eq_true rfl) dL_room_15 (Or.inr ⟨fun z => by rw [ek] at z; exact absurd z (by decide), by rw [ek]; decide, rfl⟩)
    · refine ⟨16, zCatch_of hto [(⟨0, 9, 12, 13⟩ : ExceptionTableEntry)] (⟨0, 9, 16, 21⟩ : ExceptionTableEntry) [] rfl (List.forall_mem_cons.mpr ⟨⟨by decide, _, hts _ LC_13, hNc.2.1⟩, (fun z hz => absurd hz List.not_mem_nil)⟩) rfl (by decide) (hts _ LC_21) (hts _ LK_IS), fun q1 => ?_⟩
      refine v_astore C [(4, .ref q1), (0, .ref x), (1, .int r), (2, .int q), (3, .ref o)] rfl (by decide) dL_room_16 ?_
      refine v_iconst (v := 2) C dL_room_18 (by decide) ?_
      exact v_iret C hQ hr rfl (Nat.le_of_ble_eq_true rfl) (Nat.le_of_ble_eq_true rfl) dL_room_19 (Or.inr ⟨fun z => by rw [ek] at z; exact absurd z (by decide), by rw [ek]; decide, rfl⟩)
set_option maxHeartbeats 4000000 in
set_option maxRecDepth 100000 in
theorem c_L_basket (l : Launch) (hl : l.stackTraces = false) (G : zG) (x o : Nat) (g : XGh) (s : ZS) (f t p : Int32) (fo : Nat → Int64) (h : zH) (hi : XI G h g x s) (hw : WFs s) (hoc : oC G h o fo) (hro : qR g o = (0, 0)) : zMetL eI l yL_basket cL_basket 6 (some .int) [(0, 12, 15, 15), (0, 12, 19, 13), (0, 12, 23, 21)] 17 10 8000 G [.ref x, .int f, .int t, .int p, .ref o] h (LQ G h g x o (kBasket s f t p) (nBasket s f t p) (Int32.toInt64 (nI (bN s)))) := by
  refine con_ofL hl RL rfl (by decide +kernel) [(0, .ref x), (1, .int f), (2, .int t), (3, .int p), (4, .ref o)] rfl (Nat.le_of_ble_eq_true rfl) ?_
  intro zp ze zs zm zargs zbelow zmeth zc C hr hin hto hNc Q hQ
  have hts := C.2.2.2.2.1
  refine v_aload C 4 rfl dL_basket_0 ?_
  refine v_iconst (v := 0) C dL_basket_2 (by decide) ?_
  refine v_aload_n C 0 rfl dL_basket_3 rfl ?_
  refine v_iload_n C 1 rfl dL_basket_4 rfl ?_
  refine v_iload_n C 2 rfl dL_basket_5 rfl ?_
  refine v_iload_n C 3 rfl dL_basket_6 rfl ?_
  refine v_callVX (rest := [.int 0, .ref o]) C (c_X4_basket l hl G x g s f t p h hi hw) K_L_82 hi.1.1.1 rfl rfl (Nat.le_of_ble_eq_true rfl) ⟨Nat.le_of_ble_eq_true rfl, Nat.le_of_ble_eq_true rfl⟩ ⟨Nat.le_of_ble_eq_true rfl, Nat.le_of_ble_eq_true rfl⟩ dL_basket_7 (fun r1 h1 w1 => ?_) (fun E1 h1 w1 => ?_)
  · obtain ⟨ek, er1, g2, xz, fz⟩ := w1
    subst er1
    have ho2 := (fz o _ hoc hro).1
    refine v_i2l (v := lN64 (bN s)) C dL_basket_10 rfl ?_
    refine v_last C ho2 (show vp_in (0 : Int32) 1 from vpin (n := 0) (N := 1) (by decide) (by decide)) dL_basket_11 (v_nw (fun h2 eh2 => ?_))
    have k3 : h2 o = some (.inl (gc G 1, 1, .inr (.inl (vp_updL fo (0 : Int32).toNatClampNeg (lN64 (bN s)))))) := by rw [eh2]; exact zup_self _ _ _
    refine v_goto (tgt := 27) C dL_basket_12 (by decide) ?_
    refine v_iconst (v := 0) C dL_basket_27 (by decide) ?_
    exact v_iret C hQ hr rfl (Nat.le_of_ble_eq_true rfl) (Nat.le_of_ble_eq_true rfl) dL_basket_28 (LQ.ok (i := 0) hoc hro ek xz fz eh2 (by decide) rfl)
  · obtain ⟨rfl, w1⟩ := w1
    rcases w1 with ⟨ek, rfl⟩ | ⟨ek, rfl⟩ | ⟨ek, rfl⟩
    · refine ⟨15, zCatch_of hto [] (⟨0, 12, 15, 15⟩ : ExceptionTableEntry) [(⟨0, 12, 19, 13⟩ : ExceptionTableEntry), (⟨0, 12, 23, 21⟩ : ExceptionTableEntry)] rfl (fun z hz => absurd hz List.not_mem_nil) rfl (by decide) (hts _ LC_15) (hts _ LK_IA), fun q1 => ?_⟩
      refine v_astore C [(5, .ref q1), (0, .ref x), (1, .int f), (2, .int t), (3, .int p), (4, .ref o)] rfl (by decide) dL_basket_15 ?_
      refine v_iconst (v := 1) C dL_basket_17 (by decide) ?_
      exact v_iret C hQ hr rfl (Nat.le_of_ble_eq_true rfl) (Nat.le_of_ble_eq_true rfl) dL_basket_18 (Or.inr ⟨fun z => by rw [ek] at z; exact absurd z (by decide), by rw [ek]; decide, rfl⟩)
    · refine ⟨19, zCatch_of hto [(⟨0, 12, 15, 15⟩ : ExceptionTableEntry)] (⟨0, 12, 19, 13⟩ : ExceptionTableEntry) [(⟨0, 12, 23, 21⟩ : ExceptionTableEntry)] rfl (List.forall_mem_cons.mpr ⟨⟨by decide, _, hts _ LC_15, hNc.2.2.2⟩, (fun z hz => absurd hz List.not_mem_nil)⟩) rfl (by decide) (hts _ LC_13) (hts _ LK_IO), fun q1 => ?_⟩
      refine v_astore C [(5, .ref q1), (0, .ref x), (1, .int f), (2, .int t), (3, .int p), (4, .ref o)] rfl (by decide) dL_basket_19 ?_
      refine v_iconst (v := 2) C dL_basket_21 (by decide) ?_
      exact v_iret C hQ hr rfl (Nat.le_of_ble_eq_true rfl) (Nat.le_of_ble_eq_true rfl) dL_basket_22 (Or.inr ⟨fun z => by rw [ek] at z; exact absurd z (by decide), by rw [ek]; decide, rfl⟩)
    · refine ⟨23, zCatch_of hto [(⟨0, 12, 15, 15⟩ : ExceptionTableEntry), (⟨0, 12, 19, 13⟩ : ExceptionTableEntry)] (⟨0, 12, 23, 21⟩ : ExceptionTableEntry) [] rfl (List.forall_mem_cons.mpr ⟨⟨by decide, _, hts _ LC_15, hNc.2.2.1⟩, (List.forall_mem_cons.mpr ⟨⟨by decide, _, hts _ LC_13, hNc.2.1⟩, (fun z hz => absurd hz List.not_mem_nil)⟩)⟩) rfl (by decide) (hts _ LC_21) (hts _ LK_IS), fun q1 => ?_⟩
      refine v_astore C [(5, .ref q1), (0, .ref x), (1, .int f), (2, .int t), (3, .int p), (4, .ref o)] rfl (by decide) dL_basket_23 ?_
      refine v_iconst (v := 3) C dL_basket_25 (by decide) ?_
      exact v_iret C hQ hr rfl (Nat.le_of_ble_eq_true rfl) (Nat.le_of_ble_eq_true rfl) dL_basket_26 (Or.inr ⟨fun z => by rw [ek] at z; exact absurd z (by decide), by rw [ek]; decide, rfl⟩)
set_option maxHeartbeats 4000000 in
set_option maxRecDepth 100000 in
theorem c_L_size (l : Launch) (hl : l.stackTraces = false) (G : zG) (x o : Nat) (g : XGh) (s : ZS) (b q : Int32) (fo : Nat → Int64) (h : zH) (hi : XI G h g x s) (hw : WFs s) (hoc : oC G h o fo) (hro : qR g o = (0, 0)) : zMetL eI l yL_size cL_size 5 (some .int) [(0, 9, 12, 13)] 16 10 8000 G [.ref x, .int b, .int q, .ref o] h (LQ G h g x o (kIsBQ s b q) s (bSize s (cl b) (cl q))) := by
  refine con_ofL hl RL rfl (by decide +kernel) [(0, .ref x), (1, .int b), (2, .int q), (3, .ref o)] rfl (Nat.le_of_ble_eq_true rfl) ?_
  intro zp ze zs zm zargs zbelow zmeth zc C hr hin hto hNc Q hQ
  have hts := C.2.2.2.2.1
  refine v_aload_n C 3 rfl dL_size_0 rfl ?_
  refine v_iconst (v := 0) C dL_size_1 (by decide) ?_
  refine v_aload_n C 0 rfl dL_size_2 rfl ?_
  refine v_iload_n C 1 rfl dL_size_3 rfl ?_
  refine v_iload_n C 2 rfl dL_size_4 rfl ?_
  refine v_callVX (rest := [.int 0, .ref o]) C (c_X4_size l hl G x g s b q h hi hw) K_L_85 hi.1.1.1 rfl rfl (Nat.le_of_ble_eq_true rfl) ⟨Nat.le_of_ble_eq_true rfl, Nat.le_of_ble_eq_true rfl⟩ ⟨Nat.le_of_ble_eq_true rfl, Nat.le_of_ble_eq_true rfl⟩ dL_size_5 (fun r1 h1 w1 => ?_) (fun E1 h1 w1 => ?_)
  · obtain ⟨ek, er1, g2, xz, fz⟩ := w1
    subst er1
    have ho2 := (fz o _ hoc hro).1
    refine v_last C ho2 (show vp_in (0 : Int32) 1 from vpin (n := 0) (N := 1) (by decide) (by decide)) dL_size_8 (v_nw (fun h2 eh2 => ?_))
    have k3 : h2 o = some (.inl (gc G 1, 1, .inr (.inl (vp_updL fo (0 : Int32).toNatClampNeg (bSize s (cl b) (cl q)))))) := by rw [eh2]; exact zup_self _ _ _
    refine v_goto (tgt := 16) C dL_size_9 (by decide) ?_
    refine v_iconst (v := 0) C dL_size_16 (by decide) ?_
    exact v_iret C hQ hr rfl (Nat.le_of_ble_eq_true rfl) (Nat.le_of_ble_eq_true rfl) dL_size_17 (LQ.ok (i := 0) hoc hro ek xz fz eh2 (by decide) rfl)
  · obtain ⟨rfl, w1⟩ := w1
    obtain ⟨ek, rfl⟩ := w1
    refine ⟨12, zCatch_of hto [] (⟨0, 9, 12, 13⟩ : ExceptionTableEntry) [] rfl (fun z hz => absurd hz List.not_mem_nil) rfl (by decide) (hts _ LC_13) (hts _ LK_IO), fun q1 => ?_⟩
    refine v_astore C [(4, .ref q1), (0, .ref x), (1, .int b), (2, .int q), (3, .ref o)] rfl (by decide) dL_size_12 ?_
    refine v_iconst (v := 1) C dL_size_14 (by decide) ?_
    exact v_iret C hQ hr rfl (Nat.le_of_ble_eq_true rfl) (Nat.le_of_ble_eq_true rfl) dL_size_15 (Or.inr ⟨fun z => by rw [ek] at z; exact absurd z (by decide), by rw [ek]; decide, rfl⟩)
set_option maxHeartbeats 4000000 in
set_option maxRecDepth 100000 in
theorem c_L_use (l : Launch) (hl : l.stackTraces = false) (G : zG) (x o : Nat) (g : XGh) (s : ZS) (b q v : Int32) (fo : Nat → Int64) (h : zH) (hi : XI G h g x s) (hw : WFs s) (hoc : oC G h o fo) (hro : qR g o = (0, 0)) : zMetL eI l yL_use cL_use 6 (some .int) [(0, 11, 14, 13), (0, 11, 18, 15), (0, 11, 22, 21)] 16 10 8000 G [.ref x, .int b, .int q, .int v, .ref o] h (LQ G h g x o (kUse s b q v) (nUse s b (bU s (cl b) + v.toInt64)) (bU s (cl b) + v.toInt64)) := by
  refine con_ofL hl RL rfl (by decide +kernel) [(0, .ref x), (1, .int b), (2, .int q), (3, .int v), (4, .ref o)] rfl (Nat.le_of_ble_eq_true rfl) ?_
  intro zp ze zs zm zargs zbelow zmeth zc C hr hin hto hNc Q hQ
  have hts := C.2.2.2.2.1
  refine v_aload C 4 rfl dL_use_0 ?_
  refine v_iconst (v := 0) C dL_use_2 (by decide) ?_
  refine v_aload_n C 0 rfl dL_use_3 rfl ?_
  refine v_iload_n C 1 rfl dL_use_4 rfl ?_
  refine v_iload_n C 2 rfl dL_use_5 rfl ?_
  refine v_iload_n C 3 rfl dL_use_6 rfl ?_
  refine v_callVX (rest := [.int 0, .ref o]) C (c_X4_use l hl G x g s b q v h hi hw) K_L_88 hi.1.1.1 rfl rfl (Nat.le_of_ble_eq_true rfl) ⟨Nat.le_of_ble_eq_true rfl, Nat.le_of_ble_eq_true rfl⟩ ⟨Nat.le_of_ble_eq_true rfl, Nat.le_of_ble_eq_true rfl⟩ dL_use_7 (fun r1 h1 w1 => ?_) (fun E1 h1 w1 => ?_)
  · obtain ⟨ek, er1, g2, xz, fz⟩ := w1
    subst er1
    have ho2 := (fz o _ hoc hro).1
    refine v_last C ho2 (show vp_in (0 : Int32) 1 from vpin (n := 0) (N := 1) (by decide) (by decide)) dL_use_10 (v_nw (fun h2 eh2 => ?_))
    have k3 : h2 o = some (.inl (gc G 1, 1, .inr (.inl (vp_updL fo (0 : Int32).toNatClampNeg (bU s (cl b) + v.toInt64))))) := by rw [eh2]; exact zup_self _ _ _
    refine v_goto (tgt := 26) C dL_use_11 (by decide) ?_
    refine v_iconst (v := 0) C dL_use_26 (by decide) ?_
    exact v_iret C hQ hr rfl (Nat.le_of_ble_eq_true rfl) (Nat.le_of_ble_eq_true rfl) dL_use_27 (LQ.ok (i := 0) hoc hro ek xz fz eh2 (by decide) rfl)
  · obtain ⟨rfl, w1⟩ := w1
    rcases w1 with ⟨ek, rfl⟩ | ⟨ek, rfl⟩ | ⟨ek, rfl⟩
    · refine ⟨14, zCatch_of hto [] (⟨0, 11, 14, 13⟩ : ExceptionTableEntry) [(⟨0, 11, 18, 15⟩ : ExceptionTableEntry), (⟨0, 11, 22, 21⟩ : ExceptionTableEntry)] rfl (fun z hz => absurd hz List.not_mem_nil) rfl (by decide) (hts _ LC_13) (hts _ LK_IO), fun q1 => ?_⟩
      refine v_astore C [(5, .ref q1), (0, .ref x), (1, .int b), (2, .int q), (3, .int v), (4, .ref o)] rfl (by decide) dL_use_14 ?_
      refine v_iconst (v := 1) C dL_use_16 (by decide) ?_
      exact v_iret C hQ hr rfl (Nat.le_of_ble_eq_true rfl) (Nat.le_of_ble_eq_true rfl) dL_use_17 (Or.inr ⟨fun z => by rw [ek] at z; exact absurd z (by decide), by rw [ek]; decide, rfl⟩)
    · refine ⟨18, zCatch_of hto [(⟨0, 11, 14, 13⟩ : ExceptionTableEntry)] (⟨0, 11, 18, 15⟩ : ExceptionTableEntry) [(⟨0, 11, 22, 21⟩ : ExceptionTableEntry)] rfl (List.forall_mem_cons.mpr ⟨⟨by decide, _, hts _ LC_13, hNc.1⟩, (fun z hz => absurd hz List.not_mem_nil)⟩) rfl (by decide) (hts _ LC_15) (hts _ LK_IA), fun q1 => ?_⟩
      refine v_astore C [(5, .ref q1), (0, .ref x), (1, .int b), (2, .int q), (3, .int v), (4, .ref o)] rfl (by decide) dL_use_18 ?_
      refine v_iconst (v := 2) C dL_use_20 (by decide) ?_
      exact v_iret C hQ hr rfl (Nat.le_of_ble_eq_true rfl) (Nat.le_of_ble_eq_true rfl) dL_use_21 (Or.inr ⟨fun z => by rw [ek] at z; exact absurd z (by decide), by rw [ek]; decide, rfl⟩)
    · refine ⟨22, zCatch_of hto [(⟨0, 11, 14, 13⟩ : ExceptionTableEntry), (⟨0, 11, 18, 15⟩ : ExceptionTableEntry)] (⟨0, 11, 22, 21⟩ : ExceptionTableEntry) [] rfl (List.forall_mem_cons.mpr ⟨⟨by decide, _, hts _ LC_13, hNc.2.1⟩, (List.forall_mem_cons.mpr ⟨⟨by decide, _, hts _ LC_15, hNc.2.2.1⟩, (fun z hz => absurd hz List.not_mem_nil)⟩)⟩) rfl (by decide) (hts _ LC_21) (hts _ LK_IS), fun q1 => ?_⟩
      refine v_astore C [(5, .ref q1), (0, .ref x), (1, .int b), (2, .int q), (3, .int v), (4, .ref o)] rfl (by decide) dL_use_22 ?_
      refine v_iconst (v := 3) C dL_use_24 (by decide) ?_
      exact v_iret C hQ hr rfl (Nat.le_of_ble_eq_true rfl) (Nat.le_of_ble_eq_true rfl) dL_use_25 (Or.inr ⟨fun z => by rw [ek] at z; exact absurd z (by decide), by rw [ek]; decide, rfl⟩)
set_option maxHeartbeats 4000000 in
set_option maxRecDepth 100000 in
theorem c_L_refill (l : Launch) (hl : l.stackTraces = false) (G : zG) (x o : Nat) (g : XGh) (s : ZS) (b v : Int32) (fo : Nat → Int64) (h : zH) (hi : XI G h g x s) (hw : WFs s) (hoc : oC G h o fo) (hro : qR g o = (0, 0)) : zMetL eI l yL_refill cL_refill 5 (some .int) [(0, 9, 12, 13), (0, 9, 16, 15), (0, 9, 20, 21)] 16 10 8000 G [.ref x, .int b, .int v, .ref o] h (LQ G h g x o (kRefill s b v) (nUse s b (bU s (cl b) - v.toInt64)) (bU s (cl b) - v.toInt64)) := by
  refine con_ofL hl RL rfl (by decide +kernel) [(0, .ref x), (1, .int b), (2, .int v), (3, .ref o)] rfl (Nat.le_of_ble_eq_true rfl) ?_
  intro zp ze zs zm zargs zbelow zmeth zc C hr hin hto hNc Q hQ
  have hts := C.2.2.2.2.1
  refine v_aload_n C 3 rfl dL_refill_0 rfl ?_
  refine v_iconst (v := 0) C dL_refill_1 (by decide) ?_
  refine v_aload_n C 0 rfl dL_refill_2 rfl ?_
  refine v_iload_n C 1 rfl dL_refill_3 rfl ?_
  refine v_iload_n C 2 rfl dL_refill_4 rfl ?_
  refine v_callVX (rest := [.int 0, .ref o]) C (c_X4_refill l hl G x g s b v h hi hw) K_L_92 hi.1.1.1 rfl rfl (Nat.le_of_ble_eq_true rfl) ⟨Nat.le_of_ble_eq_true rfl, Nat.le_of_ble_eq_true rfl⟩ ⟨Nat.le_of_ble_eq_true rfl, Nat.le_of_ble_eq_true rfl⟩ dL_refill_5 (fun r1 h1 w1 => ?_) (fun E1 h1 w1 => ?_)
  · obtain ⟨ek, er1, g2, xz, fz⟩ := w1
    subst er1
    have ho2 := (fz o _ hoc hro).1
    refine v_last C ho2 (show vp_in (0 : Int32) 1 from vpin (n := 0) (N := 1) (by decide) (by decide)) dL_refill_8 (v_nw (fun h2 eh2 => ?_))
    have k3 : h2 o = some (.inl (gc G 1, 1, .inr (.inl (vp_updL fo (0 : Int32).toNatClampNeg (bU s (cl b) - v.toInt64))))) := by rw [eh2]; exact zup_self _ _ _
    refine v_goto (tgt := 24) C dL_refill_9 (by decide) ?_
    refine v_iconst (v := 0) C dL_refill_24 (by decide) ?_
    exact v_iret C hQ hr rfl (Nat.le_of_ble_eq_true rfl) (Nat.le_of_ble_eq_true rfl) dL_refill_25 (LQ.ok (i := 0) hoc hro ek xz fz eh2 (by decide) rfl)
  · obtain ⟨rfl, w1⟩ := w1
    rcases w1 with ⟨ek, rfl⟩ | ⟨ek, rfl⟩ | ⟨ek, rfl⟩
    · refine ⟨12, zCatch_of hto [] (⟨0, 9, 12, 13⟩ : ExceptionTableEntry) [(⟨0, 9, 16, 15⟩ : ExceptionTableEntry), (⟨0, 9, 20, 21⟩ : ExceptionTableEntry)] rfl (fun z hz => absurd hz List.not_mem_nil) rfl (by decide) (hts _ LC_13) (hts _ LK_IO), fun q1 => ?_⟩
      refine v_astore C [(4, .ref q1), (0, .ref x), (1, .int b), (2, .int v), (3, .ref o)] rfl (by decide) dL_refill_12 ?_
      refine v_iconst (v := 1) C dL_refill_14 (by decide) ?_
      exact v_iret C hQ hr rfl (Nat.le_of_ble_eq_true rfl) (Nat.le_of_ble_eq_true rfl) dL_refill_15 (Or.inr ⟨fun z => by rw [ek] at z; exact absurd z (by decide), by rw [ek]; decide, rfl⟩)
    · refine ⟨16, zCatch_of hto [(⟨0, 9, 12, 13⟩ : ExceptionTableEntry)] (⟨0, 9, 16, 15⟩ : ExceptionTableEntry) [(⟨0, 9, 20, 21⟩ : ExceptionTableEntry)] rfl (List.forall_mem_cons.mpr ⟨⟨by decide, _, hts _ LC_13, hNc.1⟩, (fun z hz => absurd hz List.not_mem_nil)⟩) rfl (by decide) (hts _ LC_15) (hts _ LK_IA), fun q1 => ?_⟩
      refine v_astore C [(4, .ref q1), (0, .ref x), (1, .int b), (2, .int v), (3, .ref o)] rfl (by decide) dL_refill_16 ?_
      refine v_iconst (v := 2) C dL_refill_18 (by decide) ?_
      exact v_iret C hQ hr rfl (Nat.le_of_ble_eq_true rfl) (Nat.le_of_ble_eq_true rfl) dL_refill_19 (Or.inr ⟨fun z => by rw [ek] at z; exact absurd z (by decide), by rw [ek]; decide, rfl⟩)
    · refine ⟨20, zCatch_of hto [(⟨0, 9, 12, 13⟩ : ExceptionTableEntry), (⟨0, 9, 16, 15⟩ : ExceptionTableEntry)] (⟨0, 9, 20, 21⟩ : ExceptionTableEntry) [] rfl (List.forall_mem_cons.mpr ⟨⟨by decide, _, hts _ LC_13, hNc.2.1⟩, (List.forall_mem_cons.mpr ⟨⟨by decide, _, hts _ LC_15, hNc.2.2.1⟩, (fun z hz => absurd hz List.not_mem_nil)⟩)⟩) rfl (by decide) (hts _ LC_21) (hts _ LK_IS), fun q1 => ?_⟩
      refine v_astore C [(4, .ref q1), (0, .ref x), (1, .int b), (2, .int v), (3, .ref o)] rfl (by decide) dL_refill_20 ?_
      refine v_iconst (v := 3) C dL_refill_22 (by decide) ?_
      exact v_iret C hQ hr rfl (Nat.le_of_ble_eq_true rfl) (Nat.le_of_ble_eq_true rfl) dL_refill_23 (Or.inr ⟨fun z => by rw [ek] at z; exact absurd z (by decide), by rw [ek]; decide, rfl⟩)

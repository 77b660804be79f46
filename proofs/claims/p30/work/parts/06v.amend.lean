theorem al_kp2 {G : zG} {h B h2 : zH} {g : XGh} {t : Nat} {L L2 : List Nat} (hx : XL G h g 0 L) (hne : L ≠ []) (r3 : qR g (qA g 3 t) = (3, t)) (r4 : qR g (qA g 4 t) = (4, t)) (al : zAL G B (qA g 14 0) (qA g 15 0) L2) (kp : zKp (fun b => b = qA g 3 t ∨ b = qA g 4 t) B h2) : zAL G h2 (qA g 14 0) (qA g 15 0) L2 := by
  have n : ∀ b (r : Nat × Nat), qR g b = r → r.1 ≠ 3 → r.1 ≠ 4 → ¬ (b = qA g 3 t ∨ b = qA g 4 t) := fun b r hr n3 n4 z => by
    rcases z with z | z
    · rw [z, r3] at hr; subst hr; exact n3 rfl
    · rw [z, r4] at hr; subst hr; exact n4 rfl
  refine al.fr (fun e he => kp _ e (n _ _ hx.2.1 (by decide) (by decide)) he) (fun e he => kp _ e ?_ he)
  rcases hx.2.2 with y | ⟨y, -⟩
  · exact n _ _ y (by decide) (by decide)
  · exact absurd y hne
set_option maxHeartbeats 4000000 in
set_option maxRecDepth 100000 in
theorem c_X4_amend (l : Launch) (hl : l.stackTraces = false) (G : zG) (x : Nat) (g : XGh) (s : ZS) (t q : Int32) (h : zH) (hi : XI G h g x s) (hw : WFs s)  : zMetX eI l yX4_amend cX4_amend 6 (some .int) 31 20 9000 G [.ref x, .int t, .int q] h (fun res h2 => (kAmend s t q) = 0 ∧ res = nI (cnt (fun z => (oD (nAmend s t q) (cl t) z).isSome) 20) ∧ XQ G h h2 g x (nAmend s t q)) (fun E h2 => h2 = h ∧ (((kAmend s t q) = 1 ∧ E = "java/lang/IndexOutOfBoundsException") ∨ ((kAmend s t q) = 2 ∧ E = "java/lang/IllegalStateException"))) := by
  refine con_ofX hl RX4 rfl (by decide +kernel) [(0, .ref x), (1, .int t), (2, .int q)] rfl (Nat.le_of_ble_eq_true rfl) ?_
  intro zp ze zs zm zargs zbelow zmeth zc C hr hin hto hQ
  obtain ⟨⟨hO, hA, ⟨hL0, hL1, hL2, hL3⟩, hS, hN, hT, hR, hB⟩, hV⟩ := id hi
  obtain ⟨mo0, hmo0⟩ := hL0.1.2.1
  obtain ⟨mo1, hmo1⟩ := hL1.1.2.1
  obtain ⟨mo2, hmo2⟩ := hL2.1.2.1
  obtain ⟨mo3, hmo3⟩ := hL3.1.2.1
  obtain ⟨fo, to, qo⟩ := hO.2.2.2
  have eS : (oS s).length = (qS g).length := by rw [hS.2, List.length_map]
  have hw2 : (oS s).length ≤ 8 := hw.1
  have hw7 : oN s ≤ 10 := hw.2.2.1.1
  have hw17 : rN s ≤ 6 := hw.2.2.2.2.1.1
  have hw25 : bN s ≤ 6 := hw.2.2.2.2.2.1
  refine v_ge C (fun hg => ?_)
  refine v_aload_n C 0 rfl dX4_amend_0 rfl ?_
  refine v_iload_n C 1 rfl dX4_amend_1 rfl ?_
  refine v_callV (rest := []) C (c_X4_isTerm l hl G x (qA g 1 0) (qA g 14 0) (qA g 14 1) (qA g 14 2) (qA g 14 3) (qA g 15 1) ((List.range (oN s)).map (qA g 3)) t h hO.1 hL1.1) K_X4_94 hO.1 rfl rfl (Nat.le_of_ble_eq_true rfl) ⟨Nat.le_of_ble_eq_true rfl, Nat.le_of_ble_eq_true rfl⟩ ⟨Nat.le_of_ble_eq_true rfl, Nat.le_of_ble_eq_true rfl⟩ dX4_amend_2 (fun i1 h1 q1 => ?_)
  obtain ⟨e1, rfl⟩ := q1; rw [mr_len] at e1
  by_cases c1 : inN t (oN s)
  · rw [zb_t c1] at e1; subst e1
    obtain ⟨j2, hj2, en2⟩ := inN.nat c1 (by omega)
    subst en2
    have eCt : cl (nI j2) = j2 := cl_nI (by omega)
    obtain ⟨r3t, r4t, r5t, t3t, ⟨fdt, t4t, hdft⟩, -⟩ := hT j2 (by omega)
    obtain ⟨vt, t5t, qvt⟩ := hV j2 (by omega)
    obtain ⟨oL1t, oL6t, -⟩ := hw.2.2.1.2.1 j2 (by omega)
    refine v_if_eq (tgt := 15) C dX4_amend_5 (by decide) (fun c3 => absurd c3 (by decide)) (fun c3 => ?_)
    refine v_iload_n C 2 rfl dX4_amend_8 rfl ?_
    refine v_callS (rest := []) C (c_X4_isQuarter l hl G q h) S_X4_34 rfl rfl (Nat.le_of_ble_eq_true rfl) ⟨Nat.le_of_ble_eq_true rfl, Nat.le_of_ble_eq_true rfl⟩ ⟨Nat.le_of_ble_eq_true rfl, Nat.le_of_ble_eq_true rfl⟩ dX4_amend_9 (fun i4 h4 q4 => ?_)
    obtain ⟨e4, rfl⟩ := q4
    by_cases c4 : inN q 20
    · rw [zb_t c4] at e4; subst e4
      obtain ⟨j5, hj5, en5⟩ := inN.nat c4 (by omega)
      subst en5
      have eCq : cl (nI j5) = j5 := cl_nI (by omega)
      refine v_if_ne (tgt := 25) C dX4_amend_12 (by decide) (fun c6 => ?_) (fun c6 => absurd c6 (by decide))
      refine v_aload_n C 0 rfl dX4_amend_25 rfl ?_
      refine v_get (v := .ref (qA g 14 0)) C F_X4_17 hO.1 rfl dX4_amend_26 ?_
      refine v_callV (rest := []) C (c_Jx4a65c_size_8abf5 l hl G (qA g 14 0) (qA g 15 0) (qS g) h hL0.1) K_X4_60 hmo0 rfl rfl (Nat.le_of_ble_eq_true rfl) ⟨Nat.le_of_ble_eq_true rfl, Nat.le_of_ble_eq_true rfl⟩ ⟨Nat.le_of_ble_eq_true rfl, Nat.le_of_ble_eq_true rfl⟩ dX4_amend_29 (fun i7 h7 q7 => ?_)
      obtain ⟨e7, rfl⟩ := q7; subst e7
      refine v_istore_n C [(3, .int (nI (qS g).length)), (0, .ref x), (1, .int (nI j2)), (2, .int (nI j5))] rfl (by decide) dX4_amend_32 rfl ?_
      refine v_aload_n C 1 rfl dX4_amend_33 rfl ?_
      refine v_get (v := .ref (qA g 14 1)) C F_X4_21 hO.1 rfl dX4_amend_34 ?_
      refine v_iload_n C 2 rfl dX4_amend_37 rfl ?_
      refine v_callV (rest := []) C (c_Jx4a65c_get_915e3 l hl G (qA g 14 1) (qA g 15 1) ((List.range (oN s)).map (qA g 3)) j2 h hL1.1 (by rw [mr_len]; omega)) K_X4_99 hmo1 rfl rfl (Nat.le_of_ble_eq_true rfl) ⟨Nat.le_of_ble_eq_true rfl, Nat.le_of_ble_eq_true rfl⟩ ⟨Nat.le_of_ble_eq_true rfl, Nat.le_of_ble_eq_true rfl⟩ dX4_amend_38 (fun i8 h8 q8 => ?_)
      obtain ⟨e8, rfl⟩ := q8; rw [mr_get (show j2 < (oN s) by omega)] at e8; subst e8
      refine v_chk C CA_X4_103 t3t dX4_amend_41 ?_
      refine v_astore C [(4, .ref (qA g 3 j2)), (3, .int (nI (qS g).length)), (0, .ref x), (1, .int (nI j2)), (2, .int (nI j5))] rfl (by decide) dX4_amend_44 ?_
      refine v_iload_n C 1 rfl dX4_amend_46 rfl ?_
      refine v_if_eq (tgt := 72) C dX4_amend_47 (by decide) (fun c9 => ?_) (fun c9 => ?_)
      · have c9 := (nk_eq (a := (qS g).length) 0 (by decide) (by omega) (by decide)).mp c9
        have z10 : (oS s).length = 0 := by omega
        have ek : (kAmend s (nI j2) (nI j5)) = 2 := (if_pos ⟨c1, c4⟩).trans (if_pos (Or.inl z10))
        exact v_throwS C (TH_64 (i := 201) (tx := "no formula, or one that the term can't have") (by decide)) hto dX4_amend_72 dX4_amend_75 dX4_amend_76 dX4_amend_78 dX4_amend_81 (Nat.le_of_ble_eq_true rfl) (Nat.le_of_ble_eq_true rfl) ⟨Nat.le_of_ble_eq_true rfl, Nat.le_of_ble_eq_true rfl⟩ ⟨Nat.le_of_ble_eq_true rfl, Nat.le_of_ble_eq_true rfl⟩ ⟨rfl, Or.inr (⟨ek, rfl⟩)⟩
      · have c9 := (nk_eq_f (a := (qS g).length) 0 (by decide) (by omega) (by decide)).mp c9
        have z12 : ¬ (oS s).length = 0 := by omega
        obtain ⟨b2, eb2⟩ : ∃ z, z = (qS g).getD ((qS g).length - 1) 0 := ⟨_, rfl⟩
        have hrb2 : qR g b2 = (11, 0) := hS.1 _ (by rw [eb2]; exact getD_memN (by omega))
        obtain ⟨u1b2, u2b2, u3b2, u4b2, ⟨⟨gfb2, x1b2, x2b2, x3b2, x4b2, x5b2⟩, y1b2, y2b2⟩, kdb2, ppb2, cab2, cbb2, hcb2, -⟩ := hN _ hrb2
        have et1 : top1 s = (qT g b2, qL g b2) := by unfold top1; rw [eS, eb2]; exact stk_get hS (by omega)
        refine v_aload C 0 rfl dX4_amend_50 ?_
        refine v_iload_n C 3 rfl dX4_amend_52 rfl ?_
        refine v_aload_n C 2 rfl dX4_amend_53 rfl ?_
        refine v_get (v := .ref (qA g 14 0)) C F_X4_17 hO.1 rfl dX4_amend_54 ?_
        refine v_iload_n C 1 rfl dX4_amend_57 rfl ?_
        refine v_iconst (v := 1) C dX4_amend_58 (by decide) ?_
        refine v_isub C dX4_amend_59 (v_eqi (nI_sbk (a := (qS g).length) 1 (by decide) (by omega)) ?_)
        refine v_callV (rest := [.int (nI j2), .ref (qA g 3 j2)]) C (c_Jx4a65c_get_915e3 l hl G (qA g 14 0) (qA g 15 0) (qS g) (((qS g).length) - 1) h hL0.1 (by omega)) K_X4_99 hmo0 rfl rfl (Nat.le_of_ble_eq_true rfl) ⟨Nat.le_of_ble_eq_true rfl, Nat.le_of_ble_eq_true rfl⟩ ⟨Nat.le_of_ble_eq_true rfl, Nat.le_of_ble_eq_true rfl⟩ dX4_amend_60 (fun i14 h14 q14 => ?_)
        obtain ⟨e14, rfl⟩ := q14; rw [← eb2] at e14; have ey14 := e14.symm; subst ey14
        refine v_chk C CA_X4_69 hcb2 dX4_amend_63 ?_
        refine v_callS (rest := []) C (c_X4_canAmend l hl G (qA g 3 j2) j2 b2 (oL s j2) (qL g b2) (gtk (qT g b2)) _ _ _ _ _ _ _ _ _ h t3t hcb2 (by omega) (by omega) (by omega) (by omega)) S_X4_197 rfl rfl (Nat.le_of_ble_eq_true rfl) ⟨Nat.le_of_ble_eq_true rfl, Nat.le_of_ble_eq_true rfl⟩ ⟨Nat.le_of_ble_eq_true rfl, Nat.le_of_ble_eq_true rfl⟩ dX4_amend_66 (fun i15 h15 q15 => ?_)
        obtain ⟨e15, rfl⟩ := q15
        by_cases c15 : qL g b2 ≤ oL s j2 ∧ gtk (qT g b2) ≤ j2
        · rw [zb_t c15] at e15; subst e15
          refine v_if_ne (tgt := 82) C dX4_amend_69 (by decide) (fun c16 => ?_) (fun c16 => absurd c16 (by decide))
          refine v_aload_n C 2 rfl dX4_amend_82 rfl ?_
          refine v_get (v := .ref (qA g 14 0)) C F_X4_17 hO.1 rfl dX4_amend_83 ?_
          refine v_iload_n C 1 rfl dX4_amend_86 rfl ?_
          refine v_iconst (v := 1) C dX4_amend_87 (by decide) ?_
          refine v_isub C dX4_amend_88 (v_eqi (nI_sbk (a := (qS g).length) 1 (by decide) (by omega)) ?_)
          refine v_callV (rest := []) C (c_Jx4a65c_remove_915e3 l hl G (qA g 14 0) (qA g 15 0) (qS g) h hL0.1 (by omega)) K_X4_125 hmo0 rfl rfl (Nat.le_of_ble_eq_true rfl) ⟨Nat.le_of_ble_eq_true rfl, Nat.le_of_ble_eq_true rfl⟩ ⟨Nat.le_of_ble_eq_true rfl, Nat.le_of_ble_eq_true rfl⟩ dX4_amend_89 (fun i18 h18 w18 => ?_)
          obtain ⟨e18, ar18, al18, zs18, ea18⟩ := w18; subst ea18
          rw [← eb2] at e18; have ey18 := e18.symm; subst ey18
          have zt18 := zs18
          have k19 : h18 x = some (.inr (7, [.ref (qA g 1 0), .ref (qA g 14 0), .ref (qA g 14 1), .ref (qA g 14 2), .ref (qA g 14 3)])) := st_keep hL0 hg zt18 _ _ hO.1 ⟨by rw [hO.2.1]; simp, by rw [hO.2.1]; simp⟩
          have k20 : h18 (qA g 1 0) = some (.inl (gc G 7, 6, .inr (.inr (.inr (.inr fo))))) := st_keep hL0 hg zt18 _ _ to ⟨by rw [hO.2.2.1]; simp, by rw [hO.2.2.1]; simp⟩
          have k21 : h18 (qA g 14 1) = some (.inr (2, [.int mo1, .ref (qA g 15 1), .int (nI ((List.range (oN s)).map (qA g 3)).length)])) := st_keep hL0 hg zt18 _ _ hmo1 ⟨by rw [hL1.2.1]; simp, by rw [hL1.2.1]; simp⟩
          have k22 : h18 (qA g 14 2) = some (.inr (2, [.int mo2, .ref (qA g 15 2), .int (nI ((List.range (rN s)).map (qA g 6)).length)])) := st_keep hL0 hg zt18 _ _ hmo2 ⟨by rw [hL2.2.1]; simp, by rw [hL2.2.1]; simp⟩
          have k23 : h18 (qA g 14 3) = some (.inr (2, [.int mo3, .ref (qA g 15 3), .int (nI ((List.range (bN s)).map (qA g 10)).length)])) := st_keep hL0 hg zt18 _ _ hmo3 ⟨by rw [hL3.2.1]; simp, by rw [hL3.2.1]; simp⟩
          have k24 : h18 (qA g 3 j2) = some (.inr (6, [.int (nI (oL s j2)), .ref (qA g 4 j2), .int (nI (cnt (fun z => (oD s j2 z).isSome) 20)), .ref (qA g 5 j2)])) := st_keep hL0 hg zt18 _ _ t3t ⟨by rw [r3t]; simp, by rw [r3t]; simp⟩
          have k25 : h18 (qA g 4 j2) = some (.inl (gc G 6, 20, .inr (.inr (.inr (.inr fdt))))) := st_keep hL0 hg zt18 _ _ t4t ⟨by rw [r4t]; simp, by rw [r4t]; simp⟩
          have k26 : h18 (qA g 5 j2) = some (.inl (gc G 1, 20, .inr (.inl vt))) := st_keep hL0 hg zt18 _ _ t5t ⟨by rw [r5t]; simp, by rw [r5t]; simp⟩
          have k27 : h18 b2 = some (.inr (4, [.int (nI kdb2), .int (nI ppb2), cab2, cbb2, .int (nI (qL g b2)), .int (gI (gtk (qT g b2))), .ref (qN g b2 1), .ref (qN g b2 0)])) := st_keep hL0 hg zt18 _ _ hcb2 ⟨by rw [hrb2]; simp, by rw [hrb2]; simp⟩
          have k28 : h18 (qN g b2 1) = some (.inr (0, [.ref (qN g b2 2), .int 0, .int 0, .int 0])) := st_keep hL0 hg zt18 _ _ x1b2 ⟨by rw [y1b2]; simp, by rw [y1b2]; simp⟩
          have k29 : h18 (qN g b2 2) = some (.inl (gc G 2, (txtOf (qT g b2)).length, .inl gfb2)) := st_keep hL0 hg zt18 _ _ x2b2 ⟨by rw [y2b2]; simp, by rw [y2b2]; simp⟩
          obtain ⟨mm18, ml18⟩ := al18.2.1
          refine v_chk C CA_X4_69 k27 dX4_amend_92 ?_
          refine v_astore C [(5, .ref b2), (4, .ref (qA g 3 j2)), (3, .int (nI (qS g).length)), (0, .ref x), (1, .int (nI j2)), (2, .int (nI j5))] rfl (by decide) dX4_amend_95 ?_
          refine v_aload C 1 rfl dX4_amend_97 ?_
          refine v_get (v := .ref (qA g 4 j2)) C F_X4_203 k24 rfl dX4_amend_99 ?_
          refine v_iload_n C 5 rfl dX4_amend_102 rfl ?_
          rcases hdft j5 (by omega) with ⟨z1, z2⟩ | ⟨bq, z1, z2, z3⟩
          · refine v_aald C 6 rfl rfl k25 (vpin (show j5 < 20 by omega) (by decide)) dX4_amend_103 ?_
            rw [nI_clamp (show j5 < 2 ^ 31 by omega), z1]
            refine v_ifnonnullN C dX4_amend_104 ?_
            refine v_aload C 1 rfl dX4_amend_107 ?_
            refine v_dup C dX4_amend_109 rfl ?_
            refine v_get (v := .int (nI (cnt (fun z => (oD s j2 z).isSome) 20))) C F_X4_207 k24 rfl dX4_amend_110 ?_
            refine v_iconst (v := 1) C dX4_amend_113 (by decide) ?_
            refine v_iadd C dX4_amend_114 (v_eqi (nI_adk (cnt (fun z => (oD s j2 z).isSome) 20) 1 (by decide)) ?_)
            refine v_put C [.int (nI (oL s j2)), .ref (qA g 4 j2), .int (nI ((cnt (fun z => (oD s j2 z).isSome) 20) + 1)), .ref (qA g 5 j2)] P_X4_207 k24 rfl rfl rfl (Nat.le_of_ble_eq_true rfl) dX4_amend_115 (v_nw (fun h31 eh31 => ?_))
            have k32 : h31 x = some (.inr (7, [.ref (qA g 1 0), .ref (qA g 14 0), .ref (qA g 14 1), .ref (qA g 14 2), .ref (qA g 14 3)])) := by rw [eh31, zup_ne _ _ (rne r3t hO.2.1 (by simp))]; exact k19
            have k33 : h31 (qA g 1 0) = some (.inl (gc G 7, 6, .inr (.inr (.inr (.inr fo))))) := by rw [eh31, zup_ne _ _ (rne r3t hO.2.2.1 (by simp))]; exact k20
            have k34 : h31 (qA g 14 1) = some (.inr (2, [.int mo1, .ref (qA g 15 1), .int (nI ((List.range (oN s)).map (qA g 3)).length)])) := by rw [eh31, zup_ne _ _ (rne r3t hL1.2.1 (by simp))]; exact k21
            have k35 : h31 (qA g 14 2) = some (.inr (2, [.int mo2, .ref (qA g 15 2), .int (nI ((List.range (rN s)).map (qA g 6)).length)])) := by rw [eh31, zup_ne _ _ (rne r3t hL2.2.1 (by simp))]; exact k22
            have k36 : h31 (qA g 14 3) = some (.inr (2, [.int mo3, .ref (qA g 15 3), .int (nI ((List.range (bN s)).map (qA g 10)).length)])) := by rw [eh31, zup_ne _ _ (rne r3t hL3.2.1 (by simp))]; exact k23
            have k37 : h31 (qA g 4 j2) = some (.inl (gc G 6, 20, .inr (.inr (.inr (.inr fdt))))) := by rw [eh31, zup_ne _ _ (rne r3t r4t (by simp))]; exact k25
            have k38 : h31 (qA g 5 j2) = some (.inl (gc G 1, 20, .inr (.inl vt))) := by rw [eh31, zup_ne _ _ (rne r3t r5t (by simp))]; exact k26
            have k39 : h31 b2 = some (.inr (4, [.int (nI kdb2), .int (nI ppb2), cab2, cbb2, .int (nI (qL g b2)), .int (gI (gtk (qT g b2))), .ref (qN g b2 1), .ref (qN g b2 0)])) := by rw [eh31, zup_ne _ _ (rne r3t hrb2 (by simp))]; exact k27
            have k40 : h31 (qN g b2 1) = some (.inr (0, [.ref (qN g b2 2), .int 0, .int 0, .int 0])) := by rw [eh31, zup_ne _ _ (rne r3t y1b2 (by simp))]; exact k28
            have k41 : h31 (qN g b2 2) = some (.inl (gc G 2, (txtOf (qT g b2)).length, .inl gfb2)) := by rw [eh31, zup_ne _ _ (rne r3t y2b2 (by simp))]; exact k29
            have k42 : h31 (qA g 14 0) = some (.inr (2, [.int mm18, .ref (qA g 15 0), .int (nI (qS g).dropLast.length)])) := by rw [eh31, zup_ne _ _ (rne r3t hL0.2.1 (by simp))]; exact ml18
            have k43 : h31 (qA g 3 j2) = some (.inr (6, [.int (nI (oL s j2)), .ref (qA g 4 j2), .int (nI ((cnt (fun z => (oD s j2 z).isSome) 20) + 1)), .ref (qA g 5 j2)])) := by rw [eh31]; exact zup_self _ _ _
            refine v_aload C 1 rfl dX4_amend_118 ?_
            refine v_get (v := .ref (qA g 4 j2)) C F_X4_203 k43 rfl dX4_amend_120 ?_
            refine v_iload_n C 5 rfl dX4_amend_123 rfl ?_
            refine v_aload C 0 rfl dX4_amend_124 ?_
            refine v_aast C 6 rfl k37 k39 rfl (Or.inr rfl) (vpin (show j5 < 20 by omega) (by decide)) dX4_amend_126 (v_nw (fun h44 eh44 => ?_))
            have k45 : h44 x = some (.inr (7, [.ref (qA g 1 0), .ref (qA g 14 0), .ref (qA g 14 1), .ref (qA g 14 2), .ref (qA g 14 3)])) := by rw [eh44, zup_ne _ _ (rne r4t hO.2.1 (by simp))]; exact k32
            have k46 : h44 (qA g 1 0) = some (.inl (gc G 7, 6, .inr (.inr (.inr (.inr fo))))) := by rw [eh44, zup_ne _ _ (rne r4t hO.2.2.1 (by simp))]; exact k33
            have k47 : h44 (qA g 14 1) = some (.inr (2, [.int mo1, .ref (qA g 15 1), .int (nI ((List.range (oN s)).map (qA g 3)).length)])) := by rw [eh44, zup_ne _ _ (rne r4t hL1.2.1 (by simp))]; exact k34
            have k48 : h44 (qA g 14 2) = some (.inr (2, [.int mo2, .ref (qA g 15 2), .int (nI ((List.range (rN s)).map (qA g 6)).length)])) := by rw [eh44, zup_ne _ _ (rne r4t hL2.2.1 (by simp))]; exact k35
            have k49 : h44 (qA g 14 3) = some (.inr (2, [.int mo3, .ref (qA g 15 3), .int (nI ((List.range (bN s)).map (qA g 10)).length)])) := by rw [eh44, zup_ne _ _ (rne r4t hL3.2.1 (by simp))]; exact k36
            have k50 : h44 (qA g 5 j2) = some (.inl (gc G 1, 20, .inr (.inl vt))) := by rw [eh44, zup_ne _ _ (rne r4t r5t (by simp))]; exact k38
            have k51 : h44 b2 = some (.inr (4, [.int (nI kdb2), .int (nI ppb2), cab2, cbb2, .int (nI (qL g b2)), .int (gI (gtk (qT g b2))), .ref (qN g b2 1), .ref (qN g b2 0)])) := by rw [eh44, zup_ne _ _ (rne r4t hrb2 (by simp))]; exact k39
            have k52 : h44 (qN g b2 1) = some (.inr (0, [.ref (qN g b2 2), .int 0, .int 0, .int 0])) := by rw [eh44, zup_ne _ _ (rne r4t y1b2 (by simp))]; exact k40
            have k53 : h44 (qN g b2 2) = some (.inl (gc G 2, (txtOf (qT g b2)).length, .inl gfb2)) := by rw [eh44, zup_ne _ _ (rne r4t y2b2 (by simp))]; exact k41
            have k54 : h44 (qA g 14 0) = some (.inr (2, [.int mm18, .ref (qA g 15 0), .int (nI (qS g).dropLast.length)])) := by rw [eh44, zup_ne _ _ (rne r4t hL0.2.1 (by simp))]; exact k42
            have k55 : h44 (qA g 3 j2) = some (.inr (6, [.int (nI (oL s j2)), .ref (qA g 4 j2), .int (nI ((cnt (fun z => (oD s j2 z).isSome) 20) + 1)), .ref (qA g 5 j2)])) := by rw [eh44, zup_ne _ _ (rne r4t r3t (by simp))]; exact k43
            have k56 : h44 (qA g 4 j2) = some (.inl (gc G 6, 20, .inr (.inr (.inr (.inr (va_up fdt ((nI j5) : Int32).toNatClampNeg (some b2))))))) := by rw [eh44]; exact zup_self _ _ _
            refine v_aload_n C 3 rfl dX4_amend_127 rfl ?_
            have kpz : zKp (fun b => b = qA g 3 j2 ∨ b = qA g 4 j2) h18 h44 := (zk_put (zk_put (zk_rf _ _) eh31 (Or.inl rfl)) eh44 (Or.inr rfl))
            have hks : kAmend s (nI j2) (nI j5) = 0 := (if_pos ⟨c1, c4⟩).trans (if_neg (by rw [eCt, et1]; show ¬ ((oS s).length = 0 ∨ oL s j2 < qL g b2 ∨ j2 < gtk (qT g b2)); omega))
            have hw2 : WFs (nAmend s (nI j2) (nI j5)) := wf_amend hw hks
            have hcnt := cnt_put (p := fun z => (oD s j2 z).isSome) (p2 := fun z => (up3 (oD s) j2 j5 (some (top1 s).1) j2 z).isSome) (q := j5) (n := 20) (by omega) (fun z hz => congrArg Option.isSome (up3_n (fun y => hz y.2))) (congrArg Option.isSome up3_s)
            rw [if_neg (show ¬ (oD s j2 j5).isSome = true from fun y => by rw [z2] at y; cases y)] at hcnt
            obtain ⟨hx0, hxf⟩ := XW.amend (t := j2) (q := j5) (b2 := b2) (fd := fdt) hi (by omega) (by omega) (by omega) et1 hrb2 (fun b e hb ⟨t1, t2, t3, t4⟩ => kpz b e (fun z => z.elim (fun y => t3 (by rw [y]; exact r3t)) (fun y => t4 (by rw [y]; exact r4t))) (st_keep hL0 hg zt18 b e hb ⟨t1, t2⟩)) (al_kp2 hL0 (hS.ne (by omega)) r3t r4t al18 kpz) (by rw [hcnt]; exact k55) hdft k56
            have hxw : XW G h44 (qR g, qA g, qT g, qL g, qN g, (qS g).dropLast) x (nAmend s (nI j2) (nI j5)) := by unfold nAmend; rw [eCt, eCq]; exact hx0
            refine v_callV (rest := []) C (c_X4_settleTerms l hl G x (qR g, qA g, qT g, qL g, qN g, (qS g).dropLast) (nAmend s (nI j2) (nI j5)) h44 hxw hw2) K_X4_55 k45 rfl rfl (Nat.le_of_ble_eq_true rfl) ⟨Nat.le_of_ble_eq_true rfl, Nat.le_of_ble_eq_true rfl⟩ ⟨Nat.le_of_ble_eq_true rfl, Nat.le_of_ble_eq_true rfl⟩ dX4_amend_128 (fun _ h57 w57 => ?_)
            obtain ⟨sfz, xvz⟩ := w57
            have xiz := XW.settle hxw sfz xvz
            have hcz : h57 (qA g 3 j2) = some (.inr (6, [.int (nI (oL s j2)), .ref (qA g 4 j2), .int (nI (cnt (fun z => (oD (nAmend s (nI j2) (nI j5)) j2 z).isSome) 20)), .ref (qA g 5 j2)])) := (xiz.1.2.2.2.2.2.1 j2 (show j2 < oN s by omega)).2.2.2.1
            refine v_aload C 1 rfl dX4_amend_131 ?_
            refine v_get (v := .int (nI (cnt (fun z => (oD (nAmend s (nI j2) (nI j5)) j2 z).isSome) 20))) C F_X4_207 hcz rfl dX4_amend_133 ?_
            have ek : (kAmend s (nI j2) (nI j5)) = 0 := (if_pos ⟨c1, c4⟩).trans (if_neg (by rw [eCt, et1]; show ¬ ((oS s).length = 0 ∨ oL s j2 < qL g b2 ∨ j2 < gtk (qT g b2)); omega))
            exact v_iret C hQ hr rfl (Nat.le_of_ble_eq_true rfl) (Nat.le_of_ble_eq_true rfl) dX4_amend_136 ⟨ek, (by rw [eCt]), ⟨_, xiz, hxf.trans sfz.fr0⟩⟩
          · refine v_aald C 6 rfl rfl k25 (vpin (show j5 < 20 by omega) (by decide)) dX4_amend_103 ?_
            rw [nI_clamp (show j5 < 2 ^ 31 by omega), z1]
            refine v_ifnonnull (tgt := 118) C dX4_amend_104 (by decide) ?_
            refine v_aload C 1 rfl dX4_amend_118 ?_
            refine v_get (v := .ref (qA g 4 j2)) C F_X4_203 k24 rfl dX4_amend_120 ?_
            refine v_iload_n C 5 rfl dX4_amend_123 rfl ?_
            refine v_aload C 0 rfl dX4_amend_124 ?_
            refine v_aast C 6 rfl k25 k27 rfl (Or.inr rfl) (vpin (show j5 < 20 by omega) (by decide)) dX4_amend_126 (v_nw (fun h58 eh58 => ?_))
            have k59 : h58 x = some (.inr (7, [.ref (qA g 1 0), .ref (qA g 14 0), .ref (qA g 14 1), .ref (qA g 14 2), .ref (qA g 14 3)])) := by rw [eh58, zup_ne _ _ (rne r4t hO.2.1 (by simp))]; exact k19
            have k60 : h58 (qA g 1 0) = some (.inl (gc G 7, 6, .inr (.inr (.inr (.inr fo))))) := by rw [eh58, zup_ne _ _ (rne r4t hO.2.2.1 (by simp))]; exact k20
            have k61 : h58 (qA g 14 1) = some (.inr (2, [.int mo1, .ref (qA g 15 1), .int (nI ((List.range (oN s)).map (qA g 3)).length)])) := by rw [eh58, zup_ne _ _ (rne r4t hL1.2.1 (by simp))]; exact k21
            have k62 : h58 (qA g 14 2) = some (.inr (2, [.int mo2, .ref (qA g 15 2), .int (nI ((List.range (rN s)).map (qA g 6)).length)])) := by rw [eh58, zup_ne _ _ (rne r4t hL2.2.1 (by simp))]; exact k22
            have k63 : h58 (qA g 14 3) = some (.inr (2, [.int mo3, .ref (qA g 15 3), .int (nI ((List.range (bN s)).map (qA g 10)).length)])) := by rw [eh58, zup_ne _ _ (rne r4t hL3.2.1 (by simp))]; exact k23
            have k64 : h58 (qA g 3 j2) = some (.inr (6, [.int (nI (oL s j2)), .ref (qA g 4 j2), .int (nI (cnt (fun z => (oD s j2 z).isSome) 20)), .ref (qA g 5 j2)])) := by rw [eh58, zup_ne _ _ (rne r4t r3t (by simp))]; exact k24
            have k65 : h58 (qA g 5 j2) = some (.inl (gc G 1, 20, .inr (.inl vt))) := by rw [eh58, zup_ne _ _ (rne r4t r5t (by simp))]; exact k26
            have k66 : h58 b2 = some (.inr (4, [.int (nI kdb2), .int (nI ppb2), cab2, cbb2, .int (nI (qL g b2)), .int (gI (gtk (qT g b2))), .ref (qN g b2 1), .ref (qN g b2 0)])) := by rw [eh58, zup_ne _ _ (rne r4t hrb2 (by simp))]; exact k27
            have k67 : h58 (qN g b2 1) = some (.inr (0, [.ref (qN g b2 2), .int 0, .int 0, .int 0])) := by rw [eh58, zup_ne _ _ (rne r4t y1b2 (by simp))]; exact k28
            have k68 : h58 (qN g b2 2) = some (.inl (gc G 2, (txtOf (qT g b2)).length, .inl gfb2)) := by rw [eh58, zup_ne _ _ (rne r4t y2b2 (by simp))]; exact k29
            have k69 : h58 (qA g 14 0) = some (.inr (2, [.int mm18, .ref (qA g 15 0), .int (nI (qS g).dropLast.length)])) := by rw [eh58, zup_ne _ _ (rne r4t hL0.2.1 (by simp))]; exact ml18
            have k70 : h58 (qA g 4 j2) = some (.inl (gc G 6, 20, .inr (.inr (.inr (.inr (va_up fdt ((nI j5) : Int32).toNatClampNeg (some b2))))))) := by rw [eh58]; exact zup_self _ _ _
            refine v_aload_n C 3 rfl dX4_amend_127 rfl ?_
            have kpz : zKp (fun b => b = qA g 3 j2 ∨ b = qA g 4 j2) h18 h58 := (zk_put (zk_rf _ _) eh58 (Or.inr rfl))
            have hks : kAmend s (nI j2) (nI j5) = 0 := (if_pos ⟨c1, c4⟩).trans (if_neg (by rw [eCt, et1]; show ¬ ((oS s).length = 0 ∨ oL s j2 < qL g b2 ∨ j2 < gtk (qT g b2)); omega))
            have hw2 : WFs (nAmend s (nI j2) (nI j5)) := wf_amend hw hks
            have hcnt := cnt_put (p := fun z => (oD s j2 z).isSome) (p2 := fun z => (up3 (oD s) j2 j5 (some (top1 s).1) j2 z).isSome) (q := j5) (n := 20) (by omega) (fun z hz => congrArg Option.isSome (up3_n (fun y => hz y.2))) (congrArg Option.isSome up3_s)
            rw [if_pos (show (oD s j2 j5).isSome = true from by rw [z3]; rfl), Nat.add_zero] at hcnt
            obtain ⟨hx0, hxf⟩ := XW.amend (t := j2) (q := j5) (b2 := b2) (fd := fdt) hi (by omega) (by omega) (by omega) et1 hrb2 (fun b e hb ⟨t1, t2, t3, t4⟩ => kpz b e (fun z => z.elim (fun y => t3 (by rw [y]; exact r3t)) (fun y => t4 (by rw [y]; exact r4t))) (st_keep hL0 hg zt18 b e hb ⟨t1, t2⟩)) (al_kp2 hL0 (hS.ne (by omega)) r3t r4t al18 kpz) (by rw [hcnt]; exact k64) hdft k70
            have hxw : XW G h58 (qR g, qA g, qT g, qL g, qN g, (qS g).dropLast) x (nAmend s (nI j2) (nI j5)) := by unfold nAmend; rw [eCt, eCq]; exact hx0
            refine v_callV (rest := []) C (c_X4_settleTerms l hl G x (qR g, qA g, qT g, qL g, qN g, (qS g).dropLast) (nAmend s (nI j2) (nI j5)) h58 hxw hw2) K_X4_55 k59 rfl rfl (Nat.le_of_ble_eq_true rfl) ⟨Nat.le_of_ble_eq_true rfl, Nat.le_of_ble_eq_true rfl⟩ ⟨Nat.le_of_ble_eq_true rfl, Nat.le_of_ble_eq_true rfl⟩ dX4_amend_128 (fun _ h71 w71 => ?_)
            obtain ⟨sfz, xvz⟩ := w71
            have xiz := XW.settle hxw sfz xvz
            have hcz : h71 (qA g 3 j2) = some (.inr (6, [.int (nI (oL s j2)), .ref (qA g 4 j2), .int (nI (cnt (fun z => (oD (nAmend s (nI j2) (nI j5)) j2 z).isSome) 20)), .ref (qA g 5 j2)])) := (xiz.1.2.2.2.2.2.1 j2 (show j2 < oN s by omega)).2.2.2.1
            refine v_aload C 1 rfl dX4_amend_131 ?_
            refine v_get (v := .int (nI (cnt (fun z => (oD (nAmend s (nI j2) (nI j5)) j2 z).isSome) 20))) C F_X4_207 hcz rfl dX4_amend_133 ?_
            have ek : (kAmend s (nI j2) (nI j5)) = 0 := (if_pos ⟨c1, c4⟩).trans (if_neg (by rw [eCt, et1]; show ¬ ((oS s).length = 0 ∨ oL s j2 < qL g b2 ∨ j2 < gtk (qT g b2)); omega))
            exact v_iret C hQ hr rfl (Nat.le_of_ble_eq_true rfl) (Nat.le_of_ble_eq_true rfl) dX4_amend_136 ⟨ek, (by rw [eCt]), ⟨_, xiz, hxf.trans sfz.fr0⟩⟩
        · rw [zb_f c15] at e15; subst e15
          refine v_if_ne (tgt := 82) C dX4_amend_69 (by decide) (fun c72 => absurd c72 (by decide)) (fun c72 => ?_)
          have ek : (kAmend s (nI j2) (nI j5)) = 2 := (if_pos ⟨c1, c4⟩).trans (if_pos (Or.inr (by rw [eCt, et1]; show oL s j2 < qL g b2 ∨ j2 < gtk (qT g b2); omega)))
          exact v_throwS C (TH_64 (i := 201) (tx := "no formula, or one that the term can't have") (by decide)) hto dX4_amend_72 dX4_amend_75 dX4_amend_76 dX4_amend_78 dX4_amend_81 (Nat.le_of_ble_eq_true rfl) (Nat.le_of_ble_eq_true rfl) ⟨Nat.le_of_ble_eq_true rfl, Nat.le_of_ble_eq_true rfl⟩ ⟨Nat.le_of_ble_eq_true rfl, Nat.le_of_ble_eq_true rfl⟩ ⟨rfl, Or.inr (⟨ek, rfl⟩)⟩
    · rw [zb_f c4] at e4; subst e4
      refine v_if_ne (tgt := 25) C dX4_amend_12 (by decide) (fun c74 => absurd c74 (by decide)) (fun c74 => ?_)
      have ek : (kAmend s (nI j2) q) = 1 := by simp [kAmend, inN, c1, c4]
      exact v_throwS C (TH_37 (i := 195) (tx := "no such term or quarter") (by decide)) hto dX4_amend_15 dX4_amend_18 dX4_amend_19 dX4_amend_21 dX4_amend_24 (Nat.le_of_ble_eq_true rfl) (Nat.le_of_ble_eq_true rfl) ⟨Nat.le_of_ble_eq_true rfl, Nat.le_of_ble_eq_true rfl⟩ ⟨Nat.le_of_ble_eq_true rfl, Nat.le_of_ble_eq_true rfl⟩ ⟨rfl, Or.inl ⟨ek, rfl⟩⟩
  · rw [zb_f c1] at e1; subst e1
    refine v_if_eq (tgt := 15) C dX4_amend_5 (by decide) (fun c76 => ?_) (fun c76 => absurd c76 (by decide))
    have ek : (kAmend s t q) = 1 := by simp [kAmend, inN, c1]
    exact v_throwS C (TH_37 (i := 195) (tx := "no such term or quarter") (by decide)) hto dX4_amend_15 dX4_amend_18 dX4_amend_19 dX4_amend_21 dX4_amend_24 (Nat.le_of_ble_eq_true rfl) (Nat.le_of_ble_eq_true rfl) ⟨Nat.le_of_ble_eq_true rfl, Nat.le_of_ble_eq_true rfl⟩ ⟨Nat.le_of_ble_eq_true rfl, Nat.le_of_ble_eq_true rfl⟩ ⟨rfl, Or.inl ⟨ek, rfl⟩⟩

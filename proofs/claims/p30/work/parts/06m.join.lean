set_option maxHeartbeats 4000000 in
set_option maxRecDepth 100000 in
theorem c_X4_join (l : Launch) (hl : l.stackTraces = false) (G : zG) (x : Nat) (g : XGh) (s : ZS) (k : Int32) (h : zH) (hi : XI G h g x s) (hw : WFs s)  : zMetX eI l yX4_join cX4_join 5 (some .int) 19 20 9000 G [.ref x, .int k] h (fun res h2 => (kJoin s k) = 0 ∧ res = nI ((oS s).length - 1) ∧ XQ G h h2 g x (nJoin s k)) (fun E h2 => h2 = h ∧ (((kJoin s k) = 1 ∧ E = "java/lang/IllegalArgumentException") ∨ ((kJoin s k) = 2 ∧ E = "java/lang/IllegalStateException"))) := by
  refine con_ofX hl RX4 rfl (by decide +kernel) [(0, .ref x), (1, .int k)] rfl (Nat.le_of_ble_eq_true rfl) ?_
  intro zp ze zs zm zargs zbelow zmeth zc C hr hin hto hQ
  obtain ⟨⟨hO, hA, ⟨hL0, hL1, hL2, hL3⟩, hS, hN, hT, hR, hB⟩, hV⟩ := id hi
  obtain ⟨mo0, hmo0⟩ := hL0.1.2.1
  obtain ⟨mo1, hmo1⟩ := hL1.1.2.1
  obtain ⟨mo2, hmo2⟩ := hL2.1.2.1
  obtain ⟨mo3, hmo3⟩ := hL3.1.2.1
  obtain ⟨fo, to, qo⟩ := hO.2.2.2
  have eS : (oS s).length = (qS g).length := by rw [hS.2, List.length_map]
  have hw2 : (oS s).length ≤ 8 := hw.1
  have hw7 : oN s ≤ 10 := hw.2.2.1.1
  have hw17 : rN s ≤ 6 := hw.2.2.2.2.1.1
  have hw25 : bN s ≤ 6 := hw.2.2.2.2.2.1
  refine v_ge C (fun hg => ?_)
  refine v_iload_n C 1 rfl dX4_join_0 rfl ?_
  refine v_iconst (v := 0) C dX4_join_1 (by decide) ?_
  refine v_iconst (v := 3) C dX4_join_2 (by decide) ?_
  refine v_callS (rest := []) C (c_X4_isWithin l hl G k 0 3 h) S_X4_46 rfl rfl (Nat.le_of_ble_eq_true rfl) ⟨Nat.le_of_ble_eq_true rfl, Nat.le_of_ble_eq_true rfl⟩ ⟨Nat.le_of_ble_eq_true rfl, Nat.le_of_ble_eq_true rfl⟩ dX4_join_3 (fun i1 h1 q1 => ?_)
  obtain ⟨e1, rfl⟩ := q1
  by_cases c1 : wth k 0 3
  · rw [zb_t c1] at e1; subst e1
    obtain ⟨j2, hj2, en2⟩ := wth_nat (n := 3) c1 (by decide) (by decide)
    subst en2
    have eCk : cl (nI j2) = j2 := cl_nI (by omega)
    refine v_if_ne (tgt := 19) C dX4_join_6 (by decide) (fun c3 => ?_) (fun c3 => absurd c3 (by decide))
    refine v_aload_n C 0 rfl dX4_join_19 rfl ?_
    refine v_get (v := .ref (qA g 14 0)) C F_X4_17 hO.1 rfl dX4_join_20 ?_
    refine v_callV (rest := []) C (c_Jx4a65c_size_8abf5 l hl G (qA g 14 0) (qA g 15 0) (qS g) h hL0.1) K_X4_60 hmo0 rfl rfl (Nat.le_of_ble_eq_true rfl) ⟨Nat.le_of_ble_eq_true rfl, Nat.le_of_ble_eq_true rfl⟩ ⟨Nat.le_of_ble_eq_true rfl, Nat.le_of_ble_eq_true rfl⟩ dX4_join_23 (fun i4 h4 q4 => ?_)
    obtain ⟨e4, rfl⟩ := q4; subst e4
    refine v_istore_n C [(2, .int (nI (qS g).length)), (0, .ref x), (1, .int (nI j2))] rfl (by decide) dX4_join_26 rfl ?_
    refine v_iload_n C 0 rfl dX4_join_27 rfl ?_
    refine v_iconst (v := 2) C dX4_join_28 (by decide) ?_
    refine v_icmp_lt (tgt := 70) C dX4_join_29 (by decide) (fun c5 => ?_) (fun c5 => ?_)
    · have c5 := (nk_lt (a := (qS g).length) 2 (by decide) (by omega) (by decide)).mp c5
      have z6 : (oS s).length < 2 := by omega
      have ek : (kJoin s (nI j2)) = 2 := by simp [kJoin, inN, wth, c1, z6]
      exact v_throwS C (TH_64 (i := 123) (tx := "fewer than two formulas, or one of the highest level") (by decide)) hto dX4_join_70 dX4_join_73 dX4_join_74 dX4_join_76 dX4_join_79 (Nat.le_of_ble_eq_true rfl) (Nat.le_of_ble_eq_true rfl) ⟨Nat.le_of_ble_eq_true rfl, Nat.le_of_ble_eq_true rfl⟩ ⟨Nat.le_of_ble_eq_true rfl, Nat.le_of_ble_eq_true rfl⟩ ⟨rfl, Or.inr (⟨ek, rfl⟩)⟩
    · have c5 := (nk_lt_f (a := (qS g).length) 2 (by decide) (by omega) (by decide)).mp c5
      have z8 : ¬ (oS s).length < 2 := by omega
      obtain ⟨b1, eb1⟩ : ∃ z, z = (qS g).getD ((qS g).length - 2) 0 := ⟨_, rfl⟩
      have hrb1 : qR g b1 = (11, 0) := hS.1 _ (by rw [eb1]; exact getD_memN (by omega))
      obtain ⟨u1b1, u2b1, u3b1, u4b1, ⟨⟨gfb1, x1b1, x2b1, x3b1, x4b1, x5b1⟩, y1b1, y2b1⟩, kdb1, ppb1, cab1, cbb1, hcb1, -⟩ := hN _ hrb1
      obtain ⟨b2, eb2⟩ : ∃ z, z = (qS g).getD ((qS g).length - 1) 0 := ⟨_, rfl⟩
      have hrb2 : qR g b2 = (11, 0) := hS.1 _ (by rw [eb2]; exact getD_memN (by omega))
      obtain ⟨u1b2, u2b2, u3b2, u4b2, ⟨⟨gfb2, x1b2, x2b2, x3b2, x4b2, x5b2⟩, y1b2, y2b2⟩, kdb2, ppb2, cab2, cbb2, hcb2, -⟩ := hN _ hrb2
      have et1 : top1 s = (qT g b2, qL g b2) := by unfold top1; rw [eS, eb2]; exact stk_get hS (by omega)
      have et2 : top2 s = (qT g b1, qL g b1) := by unfold top2; rw [eS, eb1]; exact stk_get hS (by omega)
      refine v_aload_n C 1 rfl dX4_join_32 rfl ?_
      refine v_get (v := .ref (qA g 14 0)) C F_X4_17 hO.1 rfl dX4_join_33 ?_
      refine v_iload_n C 0 rfl dX4_join_36 rfl ?_
      refine v_iconst (v := 2) C dX4_join_37 (by decide) ?_
      refine v_isub C dX4_join_38 (v_eqi (nI_sbk (a := (qS g).length) 2 (by decide) (by omega)) ?_)
      refine v_callV (rest := []) C (c_Jx4a65c_get_915e3 l hl G (qA g 14 0) (qA g 15 0) (qS g) (((qS g).length) - 2) h hL0.1 (by omega)) K_X4_99 hmo0 rfl rfl (Nat.le_of_ble_eq_true rfl) ⟨Nat.le_of_ble_eq_true rfl, Nat.le_of_ble_eq_true rfl⟩ ⟨Nat.le_of_ble_eq_true rfl, Nat.le_of_ble_eq_true rfl⟩ dX4_join_39 (fun i10 h10 q10 => ?_)
      obtain ⟨e10, rfl⟩ := q10; rw [← eb1] at e10; have ey10 := e10.symm; subst ey10
      refine v_chk C CA_X4_69 hcb1 dX4_join_42 ?_
      refine v_callS (rest := []) C (c_X4_canGrow l hl G b1 (qL g b1) _ _ _ _ .null _ _ _ h hcb1 (by omega)) S_X4_119 rfl rfl (Nat.le_of_ble_eq_true rfl) ⟨Nat.le_of_ble_eq_true rfl, Nat.le_of_ble_eq_true rfl⟩ ⟨Nat.le_of_ble_eq_true rfl, Nat.le_of_ble_eq_true rfl⟩ dX4_join_45 (fun i11 h11 q11 => ?_)
      obtain ⟨e11, rfl⟩ := q11
      by_cases c11 : qL g b1 < 6
      · rw [zb_t c11] at e11; subst e11
        have z12 : ¬ (top2 s).2 = 6 := by rw [et2]; show ¬ qL g b1 = 6; omega
        refine v_if_eq (tgt := 70) C dX4_join_48 (by decide) (fun c13 => absurd c13 (by decide)) (fun c13 => ?_)
        refine v_aload_n C 1 rfl dX4_join_51 rfl ?_
        refine v_get (v := .ref (qA g 14 0)) C F_X4_17 hO.1 rfl dX4_join_52 ?_
        refine v_iload_n C 0 rfl dX4_join_55 rfl ?_
        refine v_iconst (v := 1) C dX4_join_56 (by decide) ?_
        refine v_isub C dX4_join_57 (v_eqi (nI_sbk (a := (qS g).length) 1 (by decide) (by omega)) ?_)
        refine v_callV (rest := []) C (c_Jx4a65c_get_915e3 l hl G (qA g 14 0) (qA g 15 0) (qS g) (((qS g).length) - 1) h hL0.1 (by omega)) K_X4_99 hmo0 rfl rfl (Nat.le_of_ble_eq_true rfl) ⟨Nat.le_of_ble_eq_true rfl, Nat.le_of_ble_eq_true rfl⟩ ⟨Nat.le_of_ble_eq_true rfl, Nat.le_of_ble_eq_true rfl⟩ dX4_join_58 (fun i15 h15 q15 => ?_)
        obtain ⟨e15, rfl⟩ := q15; rw [← eb2] at e15; have ey15 := e15.symm; subst ey15
        refine v_chk C CA_X4_69 hcb2 dX4_join_61 ?_
        refine v_callS (rest := []) C (c_X4_canGrow l hl G b2 (qL g b2) _ _ _ _ .null _ _ _ h hcb2 (by omega)) S_X4_119 rfl rfl (Nat.le_of_ble_eq_true rfl) ⟨Nat.le_of_ble_eq_true rfl, Nat.le_of_ble_eq_true rfl⟩ ⟨Nat.le_of_ble_eq_true rfl, Nat.le_of_ble_eq_true rfl⟩ dX4_join_64 (fun i16 h16 q16 => ?_)
        obtain ⟨e16, rfl⟩ := q16
        by_cases c16 : qL g b2 < 6
        · rw [zb_t c16] at e16; subst e16
          have z17 : ¬ (top1 s).2 = 6 := by rw [et1]; show ¬ qL g b2 = 6; omega
          refine v_if_ne (tgt := 80) C dX4_join_67 (by decide) (fun c18 => ?_) (fun c18 => absurd c18 (by decide))
          refine v_aload_n C 1 rfl dX4_join_80 rfl ?_
          refine v_get (v := .ref (qA g 14 0)) C F_X4_17 hO.1 rfl dX4_join_81 ?_
          refine v_iload_n C 0 rfl dX4_join_84 rfl ?_
          refine v_iconst (v := 1) C dX4_join_85 (by decide) ?_
          refine v_isub C dX4_join_86 (v_eqi (nI_sbk (a := (qS g).length) 1 (by decide) (by omega)) ?_)
          refine v_callV (rest := []) C (c_Jx4a65c_remove_915e3 l hl G (qA g 14 0) (qA g 15 0) (qS g) h hL0.1 (by omega)) K_X4_125 hmo0 rfl rfl (Nat.le_of_ble_eq_true rfl) ⟨Nat.le_of_ble_eq_true rfl, Nat.le_of_ble_eq_true rfl⟩ ⟨Nat.le_of_ble_eq_true rfl, Nat.le_of_ble_eq_true rfl⟩ dX4_join_87 (fun i20 h20 w20 => ?_)
          obtain ⟨e20, ar20, al20, zs20, ea20⟩ := w20; subst ea20
          rw [← eb2] at e20; have ey20 := e20.symm; subst ey20
          have zt20 := zs20
          have k21 : h20 x = some (.inr (7, [.ref (qA g 1 0), .ref (qA g 14 0), .ref (qA g 14 1), .ref (qA g 14 2), .ref (qA g 14 3)])) := st_keep hL0 hg zt20 _ _ hO.1 ⟨by rw [hO.2.1]; simp, by rw [hO.2.1]; simp⟩
          have k22 : h20 (qA g 1 0) = some (.inl (gc G 7, 6, .inr (.inr (.inr (.inr fo))))) := st_keep hL0 hg zt20 _ _ to ⟨by rw [hO.2.2.1]; simp, by rw [hO.2.2.1]; simp⟩
          have k23 : h20 (qA g 14 1) = some (.inr (2, [.int mo1, .ref (qA g 15 1), .int (nI ((List.range (oN s)).map (qA g 3)).length)])) := st_keep hL0 hg zt20 _ _ hmo1 ⟨by rw [hL1.2.1]; simp, by rw [hL1.2.1]; simp⟩
          have k24 : h20 (qA g 14 2) = some (.inr (2, [.int mo2, .ref (qA g 15 2), .int (nI ((List.range (rN s)).map (qA g 6)).length)])) := st_keep hL0 hg zt20 _ _ hmo2 ⟨by rw [hL2.2.1]; simp, by rw [hL2.2.1]; simp⟩
          have k25 : h20 (qA g 14 3) = some (.inr (2, [.int mo3, .ref (qA g 15 3), .int (nI ((List.range (bN s)).map (qA g 10)).length)])) := st_keep hL0 hg zt20 _ _ hmo3 ⟨by rw [hL3.2.1]; simp, by rw [hL3.2.1]; simp⟩
          have k26 : h20 b1 = some (.inr (4, [.int (nI kdb1), .int (nI ppb1), cab1, cbb1, .int (nI (qL g b1)), .int (gI (gtk (qT g b1))), .ref (qN g b1 1), .ref (qN g b1 0)])) := st_keep hL0 hg zt20 _ _ hcb1 ⟨by rw [hrb1]; simp, by rw [hrb1]; simp⟩
          have k27 : h20 (qN g b1 1) = some (.inr (0, [.ref (qN g b1 2), .int 0, .int 0, .int 0])) := st_keep hL0 hg zt20 _ _ x1b1 ⟨by rw [y1b1]; simp, by rw [y1b1]; simp⟩
          have k28 : h20 (qN g b1 2) = some (.inl (gc G 2, (txtOf (qT g b1)).length, .inl gfb1)) := st_keep hL0 hg zt20 _ _ x2b1 ⟨by rw [y2b1]; simp, by rw [y2b1]; simp⟩
          have k29 : h20 b2 = some (.inr (4, [.int (nI kdb2), .int (nI ppb2), cab2, cbb2, .int (nI (qL g b2)), .int (gI (gtk (qT g b2))), .ref (qN g b2 1), .ref (qN g b2 0)])) := st_keep hL0 hg zt20 _ _ hcb2 ⟨by rw [hrb2]; simp, by rw [hrb2]; simp⟩
          have k30 : h20 (qN g b2 1) = some (.inr (0, [.ref (qN g b2 2), .int 0, .int 0, .int 0])) := st_keep hL0 hg zt20 _ _ x1b2 ⟨by rw [y1b2]; simp, by rw [y1b2]; simp⟩
          have k31 : h20 (qN g b2 2) = some (.inl (gc G 2, (txtOf (qT g b2)).length, .inl gfb2)) := st_keep hL0 hg zt20 _ _ x2b2 ⟨by rw [y2b2]; simp, by rw [y2b2]; simp⟩
          obtain ⟨mm20, ml20⟩ := al20.2.1
          refine v_chk C CA_X4_69 k29 dX4_join_90 ?_
          refine v_astore_n C [(3, .ref b2), (2, .int (nI (qS g).length)), (0, .ref x), (1, .int (nI j2))] rfl (by decide) dX4_join_93 rfl ?_
          refine v_aload_n C 2 rfl dX4_join_94 rfl ?_
          refine v_get (v := .ref (qA g 14 0)) C F_X4_17 k21 rfl dX4_join_95 ?_
          refine v_iload_n C 1 rfl dX4_join_98 rfl ?_
          refine v_iconst (v := 2) C dX4_join_99 (by decide) ?_
          refine v_isub C dX4_join_100 (v_eqi (nI_sbk (a := (qS g).length) 2 (by decide) (by omega)) ?_)
          refine v_eqi (congrArg nI (show (qS g).length - 2 = (qS g).dropLast.length - 1 by rw [List.length_dropLast]; omega)) ?_
          refine v_callV (rest := []) C (c_Jx4a65c_remove_915e3 l hl G (qA g 14 0) (qA g 15 0) (qS g).dropLast h20 al20 (by simp only [List.length_dropLast]; omega)) K_X4_125 ml20 rfl rfl (Nat.le_of_ble_eq_true rfl) ⟨Nat.le_of_ble_eq_true rfl, Nat.le_of_ble_eq_true rfl⟩ ⟨Nat.le_of_ble_eq_true rfl, Nat.le_of_ble_eq_true rfl⟩ dX4_join_101 (fun i33 h33 w33 => ?_)
          obtain ⟨e33, ar33, al33, zs33, ea33⟩ := w33; subst ea33
          rw [List.length_dropLast, drop_get (by omega), show (qS g).length - 1 - 1 = (qS g).length - 2 by omega, ← eb1] at e33; have ey33 := e33.symm; subst ey33
          have zt33 := zSt.trans zt20 zs33 ml20
          have k34 : h33 x = some (.inr (7, [.ref (qA g 1 0), .ref (qA g 14 0), .ref (qA g 14 1), .ref (qA g 14 2), .ref (qA g 14 3)])) := st_keep hL0 hg zt33 _ _ hO.1 ⟨by rw [hO.2.1]; simp, by rw [hO.2.1]; simp⟩
          have k35 : h33 (qA g 1 0) = some (.inl (gc G 7, 6, .inr (.inr (.inr (.inr fo))))) := st_keep hL0 hg zt33 _ _ to ⟨by rw [hO.2.2.1]; simp, by rw [hO.2.2.1]; simp⟩
          have k36 : h33 (qA g 14 1) = some (.inr (2, [.int mo1, .ref (qA g 15 1), .int (nI ((List.range (oN s)).map (qA g 3)).length)])) := st_keep hL0 hg zt33 _ _ hmo1 ⟨by rw [hL1.2.1]; simp, by rw [hL1.2.1]; simp⟩
          have k37 : h33 (qA g 14 2) = some (.inr (2, [.int mo2, .ref (qA g 15 2), .int (nI ((List.range (rN s)).map (qA g 6)).length)])) := st_keep hL0 hg zt33 _ _ hmo2 ⟨by rw [hL2.2.1]; simp, by rw [hL2.2.1]; simp⟩
          have k38 : h33 (qA g 14 3) = some (.inr (2, [.int mo3, .ref (qA g 15 3), .int (nI ((List.range (bN s)).map (qA g 10)).length)])) := st_keep hL0 hg zt33 _ _ hmo3 ⟨by rw [hL3.2.1]; simp, by rw [hL3.2.1]; simp⟩
          have k39 : h33 b1 = some (.inr (4, [.int (nI kdb1), .int (nI ppb1), cab1, cbb1, .int (nI (qL g b1)), .int (gI (gtk (qT g b1))), .ref (qN g b1 1), .ref (qN g b1 0)])) := st_keep hL0 hg zt33 _ _ hcb1 ⟨by rw [hrb1]; simp, by rw [hrb1]; simp⟩
          have k40 : h33 (qN g b1 1) = some (.inr (0, [.ref (qN g b1 2), .int 0, .int 0, .int 0])) := st_keep hL0 hg zt33 _ _ x1b1 ⟨by rw [y1b1]; simp, by rw [y1b1]; simp⟩
          have k41 : h33 (qN g b1 2) = some (.inl (gc G 2, (txtOf (qT g b1)).length, .inl gfb1)) := st_keep hL0 hg zt33 _ _ x2b1 ⟨by rw [y2b1]; simp, by rw [y2b1]; simp⟩
          have k42 : h33 b2 = some (.inr (4, [.int (nI kdb2), .int (nI ppb2), cab2, cbb2, .int (nI (qL g b2)), .int (gI (gtk (qT g b2))), .ref (qN g b2 1), .ref (qN g b2 0)])) := st_keep hL0 hg zt33 _ _ hcb2 ⟨by rw [hrb2]; simp, by rw [hrb2]; simp⟩
          have k43 : h33 (qN g b2 1) = some (.inr (0, [.ref (qN g b2 2), .int 0, .int 0, .int 0])) := st_keep hL0 hg zt33 _ _ x1b2 ⟨by rw [y1b2]; simp, by rw [y1b2]; simp⟩
          have k44 : h33 (qN g b2 2) = some (.inl (gc G 2, (txtOf (qT g b2)).length, .inl gfb2)) := st_keep hL0 hg zt33 _ _ x2b2 ⟨by rw [y2b2]; simp, by rw [y2b2]; simp⟩
          obtain ⟨mm33, ml33⟩ := al33.2.1
          refine v_chk C CA_X4_69 k39 dX4_join_104 ?_
          refine v_astore C [(4, .ref b1), (3, .ref b2), (2, .int (nI (qS g).length)), (0, .ref x), (1, .int (nI j2))] rfl (by decide) dX4_join_107 ?_
          have tl1 := (u3b1.up (show qL g b1 ≤ 5 by omega)).txl
          have tl2 := (u3b2.up (show qL g b2 ≤ 5 by omega)).txl
          have gb2 : gtk (qT g b2) ≤ 10 := Nat.le_trans u4b2 hw7
          have gb1 : gtk (qT g b1) ≤ 10 := Nat.le_trans u4b1 hw7
          refine v_aload_n C 3 rfl dX4_join_109 rfl ?_
          refine v_new C N_X4_69 (Nat.le_of_ble_eq_true rfl) (Nat.le_of_ble_eq_true rfl) dX4_join_110 (fun q45 gq45 nq45 => v_nw (fun h45 eh45 => ?_))
          have k46 : h45 x = some (.inr (7, [.ref (qA g 1 0), .ref (qA g 14 0), .ref (qA g 14 1), .ref (qA g 14 2), .ref (qA g 14 3)])) := by rw [eh45, zup_ne _ _ (zne_new nq45 k34)]; exact k34
          have k47 : h45 (qA g 1 0) = some (.inl (gc G 7, 6, .inr (.inr (.inr (.inr fo))))) := by rw [eh45, zup_ne _ _ (zne_new nq45 k35)]; exact k35
          have k48 : h45 (qA g 14 1) = some (.inr (2, [.int mo1, .ref (qA g 15 1), .int (nI ((List.range (oN s)).map (qA g 3)).length)])) := by rw [eh45, zup_ne _ _ (zne_new nq45 k36)]; exact k36
          have k49 : h45 (qA g 14 2) = some (.inr (2, [.int mo2, .ref (qA g 15 2), .int (nI ((List.range (rN s)).map (qA g 6)).length)])) := by rw [eh45, zup_ne _ _ (zne_new nq45 k37)]; exact k37
          have k50 : h45 (qA g 14 3) = some (.inr (2, [.int mo3, .ref (qA g 15 3), .int (nI ((List.range (bN s)).map (qA g 10)).length)])) := by rw [eh45, zup_ne _ _ (zne_new nq45 k38)]; exact k38
          have k51 : h45 b1 = some (.inr (4, [.int (nI kdb1), .int (nI ppb1), cab1, cbb1, .int (nI (qL g b1)), .int (gI (gtk (qT g b1))), .ref (qN g b1 1), .ref (qN g b1 0)])) := by rw [eh45, zup_ne _ _ (zne_new nq45 k39)]; exact k39
          have k52 : h45 (qN g b1 1) = some (.inr (0, [.ref (qN g b1 2), .int 0, .int 0, .int 0])) := by rw [eh45, zup_ne _ _ (zne_new nq45 k40)]; exact k40
          have k53 : h45 (qN g b1 2) = some (.inl (gc G 2, (txtOf (qT g b1)).length, .inl gfb1)) := by rw [eh45, zup_ne _ _ (zne_new nq45 k41)]; exact k41
          have k54 : h45 b2 = some (.inr (4, [.int (nI kdb2), .int (nI ppb2), cab2, cbb2, .int (nI (qL g b2)), .int (gI (gtk (qT g b2))), .ref (qN g b2 1), .ref (qN g b2 0)])) := by rw [eh45, zup_ne _ _ (zne_new nq45 k42)]; exact k42
          have k55 : h45 (qN g b2 1) = some (.inr (0, [.ref (qN g b2 2), .int 0, .int 0, .int 0])) := by rw [eh45, zup_ne _ _ (zne_new nq45 k43)]; exact k43
          have k56 : h45 (qN g b2 2) = some (.inl (gc G 2, (txtOf (qT g b2)).length, .inl gfb2)) := by rw [eh45, zup_ne _ _ (zne_new nq45 k44)]; exact k44
          have k57 : h45 (qA g 14 0) = some (.inr (2, [.int mm33, .ref (qA g 15 0), .int (nI (qS g).dropLast.dropLast.length)])) := by rw [eh45, zup_ne _ _ (zne_new nq45 ml33)]; exact ml33
          have k58 : h45 q45 = some (.inr (4, [.int 0, .int 0, .null, .null, .int 0, .int 0, .null, .null])) := by rw [eh45]; exact zup_self _ _ _
          have nz_q45 : h33 q45 = none := knone (zk_rf (fun _ => False) h33) nq45
          have nh_q45 : h q45 = none := nz_base hg zt33 al33 nz_q45
          refine v_dup C dX4_join_113 rfl ?_
          refine v_iload_n C 4 rfl dX4_join_114 rfl ?_
          refine v_iconst (v := (nI 0)) C dX4_join_115 (by decide) ?_
          refine v_aload C 0 rfl dX4_join_116 ?_
          refine v_aload_n C 1 rfl dX4_join_118 rfl ?_
          refine v_iload_n C 4 rfl dX4_join_119 rfl ?_
          refine v_aload C 0 rfl dX4_join_120 ?_
          refine v_get (v := .ref (qN g b1 1)) C F_X4_128 k51 rfl dX4_join_122 ?_
          refine v_aload_n C 1 rfl dX4_join_125 rfl ?_
          refine v_get (v := .ref (qN g b2 1)) C F_X4_128 k54 rfl dX4_join_126 ?_
          refine v_callS (rest := [.ref b2, .ref b1, .int (nI 0), .int (nI j2), .ref q45, .ref q45, .ref x]) C (c_X4_joinText l hl G j2 (qN g b1 1) (qN g b1 2) gfb1 (txtOf (qT g b1)) (qN g b2 1) (qN g b2 2) gfb2 (txtOf (qT g b2)) h45 (by omega) (⟨k52, k53, x3b1, x4b1, x5b1⟩) (⟨k55, k56, x3b2, x4b2, x5b2⟩) (by omega)) S_X4_132 rfl rfl (Nat.le_of_ble_eq_true rfl) ⟨Nat.le_of_ble_eq_true rfl, Nat.le_of_ble_eq_true rfl⟩ ⟨Nat.le_of_ble_eq_true rfl, Nat.le_of_ble_eq_true rfl⟩ dX4_join_129 (fun r59 h59 w59 => ?_)
          obtain ⟨nr59, kp59, tb59, gf59, nb59, tx59, tt59, ts59, tf59⟩ := w59
          have nz_r59 : h33 r59 = none := knone (zk_new (zk_rf (fun _ => False) h33) eh45 nq45) nr59
          have nh_r59 : h r59 = none := nz_base hg zt33 al33 nz_r59
          have nz_tb59 : h33 tb59 = none := knone (zk_new (zk_rf (fun _ => False) h33) eh45 nq45) nb59
          have nh_tb59 : h tb59 = none := nz_base hg zt33 al33 nz_tb59
          have k60 : h59 x = some (.inr (7, [.ref (qA g 1 0), .ref (qA g 14 0), .ref (qA g 14 1), .ref (qA g 14 2), .ref (qA g 14 3)])) := kp59 _ _ id k46
          have k61 : h59 (qA g 1 0) = some (.inl (gc G 7, 6, .inr (.inr (.inr (.inr fo))))) := kp59 _ _ id k47
          have k62 : h59 (qA g 14 1) = some (.inr (2, [.int mo1, .ref (qA g 15 1), .int (nI ((List.range (oN s)).map (qA g 3)).length)])) := kp59 _ _ id k48
          have k63 : h59 (qA g 14 2) = some (.inr (2, [.int mo2, .ref (qA g 15 2), .int (nI ((List.range (rN s)).map (qA g 6)).length)])) := kp59 _ _ id k49
          have k64 : h59 (qA g 14 3) = some (.inr (2, [.int mo3, .ref (qA g 15 3), .int (nI ((List.range (bN s)).map (qA g 10)).length)])) := kp59 _ _ id k50
          have k65 : h59 b1 = some (.inr (4, [.int (nI kdb1), .int (nI ppb1), cab1, cbb1, .int (nI (qL g b1)), .int (gI (gtk (qT g b1))), .ref (qN g b1 1), .ref (qN g b1 0)])) := kp59 _ _ id k51
          have k66 : h59 (qN g b1 1) = some (.inr (0, [.ref (qN g b1 2), .int 0, .int 0, .int 0])) := kp59 _ _ id k52
          have k67 : h59 (qN g b1 2) = some (.inl (gc G 2, (txtOf (qT g b1)).length, .inl gfb1)) := kp59 _ _ id k53
          have k68 : h59 b2 = some (.inr (4, [.int (nI kdb2), .int (nI ppb2), cab2, cbb2, .int (nI (qL g b2)), .int (gI (gtk (qT g b2))), .ref (qN g b2 1), .ref (qN g b2 0)])) := kp59 _ _ id k54
          have k69 : h59 (qN g b2 1) = some (.inr (0, [.ref (qN g b2 2), .int 0, .int 0, .int 0])) := kp59 _ _ id k55
          have k70 : h59 (qN g b2 2) = some (.inl (gc G 2, (txtOf (qT g b2)).length, .inl gfb2)) := kp59 _ _ id k56
          have k71 : h59 (qA g 14 0) = some (.inr (2, [.int mm33, .ref (qA g 15 0), .int (nI (qS g).dropLast.dropLast.length)])) := kp59 _ _ id k57
          have k72 : h59 q45 = some (.inr (4, [.int 0, .int 0, .null, .null, .int 0, .int 0, .null, .null])) := kp59 _ _ id k58
          refine v_callI (rest := [.ref q45, .ref x]) C (c_X1_init_2 l hl G q45 b1 (qL g b1) (gtk (qT g b1)) b2 (qL g b2) (gtk (qT g b2)) r59 (nI j2) (nI 0) _ _ _ _ _ _ _ _ _ _ _ _ h59 k72 k65 k68 (by omega) (by omega) (by omega) (by omega) (zne_new nq45 k39) (zne_new nq45 k42)) I_X4_136 rfl rfl (Nat.le_of_ble_eq_true rfl) ⟨Nat.le_of_ble_eq_true rfl, Nat.le_of_ble_eq_true rfl⟩ ⟨Nat.le_of_ble_eq_true rfl, Nat.le_of_ble_eq_true rfl⟩ dX4_join_132 (fun h73 w73 => ?_)
          obtain ⟨rw73, hc73, hrw73, nrw73, kp73⟩ := w73
          have nz_rw73 : h33 rw73 = none := knone (zk_call (zk_new (zk_rf (fun _ => False) h33) eh45 nq45) kp59 (fun _ _ _ _ z => z)) nrw73
          have nh_rw73 : h rw73 = none := nz_base hg zt33 al33 nz_rw73
          have k74 : h73 x = some (.inr (7, [.ref (qA g 1 0), .ref (qA g 14 0), .ref (qA g 14 1), .ref (qA g 14 2), .ref (qA g 14 3)])) := kp73 _ _ (fun z => (zne_new nq45 k34) z) k60
          have k75 : h73 (qA g 1 0) = some (.inl (gc G 7, 6, .inr (.inr (.inr (.inr fo))))) := kp73 _ _ (fun z => (zne_new nq45 k35) z) k61
          have k76 : h73 (qA g 14 1) = some (.inr (2, [.int mo1, .ref (qA g 15 1), .int (nI ((List.range (oN s)).map (qA g 3)).length)])) := kp73 _ _ (fun z => (zne_new nq45 k36) z) k62
          have k77 : h73 (qA g 14 2) = some (.inr (2, [.int mo2, .ref (qA g 15 2), .int (nI ((List.range (rN s)).map (qA g 6)).length)])) := kp73 _ _ (fun z => (zne_new nq45 k37) z) k63
          have k78 : h73 (qA g 14 3) = some (.inr (2, [.int mo3, .ref (qA g 15 3), .int (nI ((List.range (bN s)).map (qA g 10)).length)])) := kp73 _ _ (fun z => (zne_new nq45 k38) z) k64
          have k79 : h73 b1 = some (.inr (4, [.int (nI kdb1), .int (nI ppb1), cab1, cbb1, .int (nI (qL g b1)), .int (gI (gtk (qT g b1))), .ref (qN g b1 1), .ref (qN g b1 0)])) := kp73 _ _ (fun z => (zne_new nq45 k39) z) k65
          have k80 : h73 (qN g b1 1) = some (.inr (0, [.ref (qN g b1 2), .int 0, .int 0, .int 0])) := kp73 _ _ (fun z => (zne_new nq45 k40) z) k66
          have k81 : h73 (qN g b1 2) = some (.inl (gc G 2, (txtOf (qT g b1)).length, .inl gfb1)) := kp73 _ _ (fun z => (zne_new nq45 k41) z) k67
          have k82 : h73 b2 = some (.inr (4, [.int (nI kdb2), .int (nI ppb2), cab2, cbb2, .int (nI (qL g b2)), .int (gI (gtk (qT g b2))), .ref (qN g b2 1), .ref (qN g b2 0)])) := kp73 _ _ (fun z => (zne_new nq45 k42) z) k68
          have k83 : h73 (qN g b2 1) = some (.inr (0, [.ref (qN g b2 2), .int 0, .int 0, .int 0])) := kp73 _ _ (fun z => (zne_new nq45 k43) z) k69
          have k84 : h73 (qN g b2 2) = some (.inl (gc G 2, (txtOf (qT g b2)).length, .inl gfb2)) := kp73 _ _ (fun z => (zne_new nq45 k44) z) k70
          have k85 : h73 (qA g 14 0) = some (.inr (2, [.int mm33, .ref (qA g 15 0), .int (nI (qS g).dropLast.dropLast.length)])) := kp73 _ _ (fun z => (zne_new nq45 ml33) z) k71
          have k86 : h73 r59 = some (.inr (0, [.ref tb59, .int 0, .int 0, .int 0])) := kp73 _ _ (fun z => (Ne.symm (zne_new nr59 k58)) z) tx59
          have k87 : h73 tb59 = some (.inl (gc G 2, (sjt j2 (txtOf (qT g b1)) (txtOf (qT g b2))).length, .inl gf59)) := kp73 _ _ (fun z => (zne_oi k72 tt59) z) tt59
          refine v_ge C (fun hgW => ?_)
          have kpa := (zk_call (zk_call (zk_new (zk_rf (fun _ => False) h33) eh45 nq45) kp59 (fun _ _ _ _ z => z)) kp73 (fun b e hb _ z => by rw [z, nz_q45] at hb; cases hb))
          have alW := al_kp al33 kpa
          refine v_callV (rest := []) C (c_X4_push l hl G x (qA g 1 0) (qA g 14 0) (qA g 14 1) (qA g 14 2) (qA g 14 3) q45 (qA g 15 0) (qS g).dropLast.dropLast _ h73 k74 alW (by simp only [List.length_dropLast]; omega) hc73 (x_ar hO hL0 hg).1 (x_ar hO hL0 hg).2) K_X4_80 k74 rfl rfl (Nat.le_of_ble_eq_true rfl) ⟨Nat.le_of_ble_eq_true rfl, Nat.le_of_ble_eq_true rfl⟩ ⟨Nat.le_of_ble_eq_true rfl, Nat.le_of_ble_eq_true rfl⟩ dX4_join_135 (fun i88 h88 w88 => ?_)
          obtain ⟨ei88, ar88, al88, zs88⟩ := w88; subst ei88
          refine v_ge C (fun hg2 => ?_)
          have hcq := stn al33 hgW zs88 nz_q45 hc73
          have hct := stn al33 hgW zs88 nz_r59 k86
          have hcb := stn al33 hgW zs88 nz_tb59 k87
          have hrw := stn al33 hgW zs88 nz_rw73 hrw73
          have zf := zSt.trans zt33 (zSt.pre kpa zs88) ml33
          refine v_eqi (y := nI ((oS s).length - 1)) (congrArg nI (show (qS g).dropLast.dropLast.length + 1 = (oS s).length - 1 by simp only [List.length_dropLast]; omega)) ?_
          have ek : (kJoin s (nI j2)) = 0 := by simp [kJoin, inN, wth, c1, z8, z12, z17]
          have htxt : sjt j2 (txtOf (qT g b1)) (txtOf (qT g b2)) = txtOf (qT g b1 ++ qT g b2 ++ [(j2, 0)]) := (txt_join (u3b1.up u2b1) (u3b2.up u2b2) (by omega)).symm
          have hgl : max (gtk (qT g b1)) (gtk (qT g b2)) = gtk (qT g b1 ++ qT g b2 ++ [(j2, 0)]) := by
              rw [gtk_app, gtk_app]; show _ = max (max _ _) (max (if j2 = 6 then 0 + 1 else 0) 0); rw [if_neg (by omega)]; omega
          rw [htxt] at hcb ts59; rw [hgl] at hcq
          have hWL : WL (oL s) (1 + max (qL g b1) (qL g b2)) (qT g b1 ++ qT g b2 ++ [(j2, 0)]) := by rw [Nat.add_comm]; exact Or.inr (Or.inr (Or.inr (Or.inl ⟨j2, qT g b1, qT g b2, by omega, u3b1.up (by omega), u3b2.up (by omega), rfl⟩)))
          exact v_iret C hQ hr rfl (Nat.le_of_ble_eq_true rfl) (Nat.le_of_ble_eq_true rfl) dX4_join_138 ⟨ek, rfl, (by show XQ G h _ g x (s.1, (oS s).dropLast.dropLast ++ [((top2 s).1 ++ (top1 s).1 ++ [(cl (nI j2), 0)], 1 + max (top2 s).2 (top1 s).2)], s.2.2); rw [et1, et2, eCk, hS.2, ← map_dl, ← map_dl]; exact XI.node (tb := tb59) (kd := j2) (p := 0) (a3 := b1) (a4 := b2) (t := (qT g b1 ++ qT g b2 ++ [(j2, 0)])) (lv := (1 + max (qL g b1) (qL g b2))) (base := (qS g).dropLast.dropLast) hi hg hg2 zf al88 (fun _ ha => mem_dl (mem_dl ha)) nh_q45 nh_r59 nh_tb59 hcq hct hcb ts59 tf59 (by omega) (by omega) hWL (by rw [← hgl]; omega) (Or.inr (nk_J rfl rfl nh_q45 hcb1 hrb1 hcb2 hrb2 (by omega) (gN_row hcq hct hcb al88 hrw nh_rw73) hrw)))⟩
        · rw [zb_f c16] at e16; subst e16
          have z89 : (top1 s).2 = 6 := by rw [et1]; show qL g b2 = 6; omega
          refine v_if_ne (tgt := 80) C dX4_join_67 (by decide) (fun c90 => absurd c90 (by decide)) (fun c90 => ?_)
          have ek : (kJoin s (nI j2)) = 2 := by simp [kJoin, inN, wth, c1, z8, z12, z89]
          exact v_throwS C (TH_64 (i := 123) (tx := "fewer than two formulas, or one of the highest level") (by decide)) hto dX4_join_70 dX4_join_73 dX4_join_74 dX4_join_76 dX4_join_79 (Nat.le_of_ble_eq_true rfl) (Nat.le_of_ble_eq_true rfl) ⟨Nat.le_of_ble_eq_true rfl, Nat.le_of_ble_eq_true rfl⟩ ⟨Nat.le_of_ble_eq_true rfl, Nat.le_of_ble_eq_true rfl⟩ ⟨rfl, Or.inr (⟨ek, rfl⟩)⟩
      · rw [zb_f c11] at e11; subst e11
        have z92 : (top2 s).2 = 6 := by rw [et2]; show qL g b1 = 6; omega
        refine v_if_eq (tgt := 70) C dX4_join_48 (by decide) (fun c93 => ?_) (fun c93 => absurd c93 (by decide))
        have ek : (kJoin s (nI j2)) = 2 := by simp [kJoin, inN, wth, c1, z8, z92]
        exact v_throwS C (TH_64 (i := 123) (tx := "fewer than two formulas, or one of the highest level") (by decide)) hto dX4_join_70 dX4_join_73 dX4_join_74 dX4_join_76 dX4_join_79 (Nat.le_of_ble_eq_true rfl) (Nat.le_of_ble_eq_true rfl) ⟨Nat.le_of_ble_eq_true rfl, Nat.le_of_ble_eq_true rfl⟩ ⟨Nat.le_of_ble_eq_true rfl, Nat.le_of_ble_eq_true rfl⟩ ⟨rfl, Or.inr (⟨ek, rfl⟩)⟩
  · rw [zb_f c1] at e1; subst e1
    refine v_if_ne (tgt := 19) C dX4_join_6 (by decide) (fun c95 => absurd c95 (by decide)) (fun c95 => ?_)
    have ek : (kJoin s k) = 1 := by simp [kJoin, inN, wth, c1]
    exact v_throwS C (TH_50 (i := 117) (tx := "no such kind") (by decide)) hto dX4_join_9 dX4_join_12 dX4_join_13 dX4_join_15 dX4_join_18 (Nat.le_of_ble_eq_true rfl) (Nat.le_of_ble_eq_true rfl) ⟨Nat.le_of_ble_eq_true rfl, Nat.le_of_ble_eq_true rfl⟩ ⟨Nat.le_of_ble_eq_true rfl, Nat.le_of_ble_eq_true rfl⟩ ⟨rfl, Or.inl ⟨ek, rfl⟩⟩
set_option maxHeartbeats 4000000 in
set_option maxRecDepth 100000 in
theorem c_X4_share (l : Launch) (hl : l.stackTraces = false) (G : zG) (x : Nat) (g : XGh) (s : ZS) (p : Int32) (h : zH) (hi : XI G h g x s) (hw : WFs s)  : zMetX eI l yX4_share cX4_share 5 (some .int) 19 20 9000 G [.ref x, .int p] h (fun res h2 => (kShare s p) = 0 ∧ res = nI ((top1 s).2 + 1) ∧ XQ G h h2 g x (nShare s p)) (fun E h2 => h2 = h ∧ (((kShare s p) = 1 ∧ E = "java/lang/IllegalArgumentException") ∨ ((kShare s p) = 2 ∧ E = "java/lang/IllegalStateException"))) := by
  refine con_ofX hl RX4 rfl (by decide +kernel) [(0, .ref x), (1, .int p)] rfl (Nat.le_of_ble_eq_true rfl) ?_
  intro zp ze zs zm zargs zbelow zmeth zc C hr hin hto hQ
  obtain ⟨⟨hO, hA, ⟨hL0, hL1, hL2, hL3⟩, hS, hN, hT, hR, hB⟩, hV⟩ := id hi
  obtain ⟨mo0, hmo0⟩ := hL0.1.2.1
  obtain ⟨mo1, hmo1⟩ := hL1.1.2.1
  obtain ⟨mo2, hmo2⟩ := hL2.1.2.1
  obtain ⟨mo3, hmo3⟩ := hL3.1.2.1
  obtain ⟨fo, to, qo⟩ := hO.2.2.2
  have eS : (oS s).length = (qS g).length := by rw [hS.2, List.length_map]
  have hw2 : (oS s).length ≤ 8 := hw.1
  have hw7 : oN s ≤ 10 := hw.2.2.1.1
  have hw17 : rN s ≤ 6 := hw.2.2.2.2.1.1
  have hw25 : bN s ≤ 6 := hw.2.2.2.2.2.1
  refine v_ge C (fun hg => ?_)
  refine v_iload_n C 1 rfl dX4_share_0 rfl ?_
  refine v_iconst (v := 0) C dX4_share_1 (by decide) ?_
  refine v_bipush (v := 100) C dX4_share_2 (by decide) ?_
  refine v_callS (rest := []) C (c_X4_isWithin l hl G p 0 100 h) S_X4_46 rfl rfl (Nat.le_of_ble_eq_true rfl) ⟨Nat.le_of_ble_eq_true rfl, Nat.le_of_ble_eq_true rfl⟩ ⟨Nat.le_of_ble_eq_true rfl, Nat.le_of_ble_eq_true rfl⟩ dX4_share_4 (fun i1 h1 q1 => ?_)
  obtain ⟨e1, rfl⟩ := q1
  by_cases c1 : wth p 0 100
  · rw [zb_t c1] at e1; subst e1
    obtain ⟨j2, hj2, en2⟩ := wth_nat (n := 100) c1 (by decide) (by decide)
    subst en2
    have eCp : cl (nI j2) = j2 := cl_nI (by omega)
    refine v_if_ne (tgt := 20) C dX4_share_7 (by decide) (fun c3 => ?_) (fun c3 => absurd c3 (by decide))
    refine v_aload_n C 0 rfl dX4_share_20 rfl ?_
    refine v_get (v := .ref (qA g 14 0)) C F_X4_17 hO.1 rfl dX4_share_21 ?_
    refine v_callV (rest := []) C (c_Jx4a65c_size_8abf5 l hl G (qA g 14 0) (qA g 15 0) (qS g) h hL0.1) K_X4_60 hmo0 rfl rfl (Nat.le_of_ble_eq_true rfl) ⟨Nat.le_of_ble_eq_true rfl, Nat.le_of_ble_eq_true rfl⟩ ⟨Nat.le_of_ble_eq_true rfl, Nat.le_of_ble_eq_true rfl⟩ dX4_share_24 (fun i4 h4 q4 => ?_)
    obtain ⟨e4, rfl⟩ := q4; subst e4
    refine v_istore_n C [(2, .int (nI (qS g).length)), (0, .ref x), (1, .int (nI j2))] rfl (by decide) dX4_share_27 rfl ?_
    refine v_iload_n C 0 rfl dX4_share_28 rfl ?_
    refine v_if_eq (tgt := 51) C dX4_share_29 (by decide) (fun c5 => ?_) (fun c5 => ?_)
    · have c5 := (nk_eq (a := (qS g).length) 0 (by decide) (by omega) (by decide)).mp c5
      have z6 : (oS s).length = 0 := by omega
      have ek : (kShare s (nI j2)) = 2 := by simp [kShare, inN, wth, c1, z6]
      exact v_throwS C (TH_64 (i := 141) (tx := "no formula, or one of the highest level") (by decide)) hto dX4_share_51 dX4_share_54 dX4_share_55 dX4_share_57 dX4_share_60 (Nat.le_of_ble_eq_true rfl) (Nat.le_of_ble_eq_true rfl) ⟨Nat.le_of_ble_eq_true rfl, Nat.le_of_ble_eq_true rfl⟩ ⟨Nat.le_of_ble_eq_true rfl, Nat.le_of_ble_eq_true rfl⟩ ⟨rfl, Or.inr (⟨ek, rfl⟩)⟩
    · have c5 := (nk_eq_f (a := (qS g).length) 0 (by decide) (by omega) (by decide)).mp c5
      have z8 : ¬ (oS s).length = 0 := by omega
      obtain ⟨b2, eb2⟩ : ∃ z, z = (qS g).getD ((qS g).length - 1) 0 := ⟨_, rfl⟩
      have hrb2 : qR g b2 = (11, 0) := hS.1 _ (by rw [eb2]; exact getD_memN (by omega))
      obtain ⟨u1b2, u2b2, u3b2, u4b2, ⟨⟨gfb2, x1b2, x2b2, x3b2, x4b2, x5b2⟩, y1b2, y2b2⟩, kdb2, ppb2, cab2, cbb2, hcb2, -⟩ := hN _ hrb2
      have et1 : top1 s = (qT g b2, qL g b2) := by unfold top1; rw [eS, eb2]; exact stk_get hS (by omega)
      refine v_aload_n C 1 rfl dX4_share_32 rfl ?_
      refine v_get (v := .ref (qA g 14 0)) C F_X4_17 hO.1 rfl dX4_share_33 ?_
      refine v_iload_n C 0 rfl dX4_share_36 rfl ?_
      refine v_iconst (v := 1) C dX4_share_37 (by decide) ?_
      refine v_isub C dX4_share_38 (v_eqi (nI_sbk (a := (qS g).length) 1 (by decide) (by omega)) ?_)
      refine v_callV (rest := []) C (c_Jx4a65c_get_915e3 l hl G (qA g 14 0) (qA g 15 0) (qS g) (((qS g).length) - 1) h hL0.1 (by omega)) K_X4_99 hmo0 rfl rfl (Nat.le_of_ble_eq_true rfl) ⟨Nat.le_of_ble_eq_true rfl, Nat.le_of_ble_eq_true rfl⟩ ⟨Nat.le_of_ble_eq_true rfl, Nat.le_of_ble_eq_true rfl⟩ dX4_share_39 (fun i10 h10 q10 => ?_)
      obtain ⟨e10, rfl⟩ := q10; rw [← eb2] at e10; have ey10 := e10.symm; subst ey10
      refine v_chk C CA_X4_69 hcb2 dX4_share_42 ?_
      refine v_callS (rest := []) C (c_X4_canGrow l hl G b2 (qL g b2) _ _ _ _ .null _ _ _ h hcb2 (by omega)) S_X4_119 rfl rfl (Nat.le_of_ble_eq_true rfl) ⟨Nat.le_of_ble_eq_true rfl, Nat.le_of_ble_eq_true rfl⟩ ⟨Nat.le_of_ble_eq_true rfl, Nat.le_of_ble_eq_true rfl⟩ dX4_share_45 (fun i11 h11 q11 => ?_)
      obtain ⟨e11, rfl⟩ := q11
      by_cases c11 : qL g b2 < 6
      · rw [zb_t c11] at e11; subst e11
        have z12 : ¬ (top1 s).2 = 6 := by rw [et1]; show ¬ qL g b2 = 6; omega
        refine v_if_ne (tgt := 61) C dX4_share_48 (by decide) (fun c13 => ?_) (fun c13 => absurd c13 (by decide))
        refine v_aload_n C 1 rfl dX4_share_61 rfl ?_
        refine v_get (v := .ref (qA g 14 0)) C F_X4_17 hO.1 rfl dX4_share_62 ?_
        refine v_iload_n C 0 rfl dX4_share_65 rfl ?_
        refine v_iconst (v := 1) C dX4_share_66 (by decide) ?_
        refine v_isub C dX4_share_67 (v_eqi (nI_sbk (a := (qS g).length) 1 (by decide) (by omega)) ?_)
        refine v_callV (rest := []) C (c_Jx4a65c_remove_915e3 l hl G (qA g 14 0) (qA g 15 0) (qS g) h hL0.1 (by omega)) K_X4_125 hmo0 rfl rfl (Nat.le_of_ble_eq_true rfl) ⟨Nat.le_of_ble_eq_true rfl, Nat.le_of_ble_eq_true rfl⟩ ⟨Nat.le_of_ble_eq_true rfl, Nat.le_of_ble_eq_true rfl⟩ dX4_share_68 (fun i15 h15 w15 => ?_)
        obtain ⟨e15, ar15, al15, zs15, ea15⟩ := w15; subst ea15
        rw [← eb2] at e15; have ey15 := e15.symm; subst ey15
        have zt15 := zs15
        have k16 : h15 x = some (.inr (7, [.ref (qA g 1 0), .ref (qA g 14 0), .ref (qA g 14 1), .ref (qA g 14 2), .ref (qA g 14 3)])) := st_keep hL0 hg zt15 _ _ hO.1 ⟨by rw [hO.2.1]; simp, by rw [hO.2.1]; simp⟩
        have k17 : h15 (qA g 1 0) = some (.inl (gc G 7, 6, .inr (.inr (.inr (.inr fo))))) := st_keep hL0 hg zt15 _ _ to ⟨by rw [hO.2.2.1]; simp, by rw [hO.2.2.1]; simp⟩
        have k18 : h15 (qA g 14 1) = some (.inr (2, [.int mo1, .ref (qA g 15 1), .int (nI ((List.range (oN s)).map (qA g 3)).length)])) := st_keep hL0 hg zt15 _ _ hmo1 ⟨by rw [hL1.2.1]; simp, by rw [hL1.2.1]; simp⟩
        have k19 : h15 (qA g 14 2) = some (.inr (2, [.int mo2, .ref (qA g 15 2), .int (nI ((List.range (rN s)).map (qA g 6)).length)])) := st_keep hL0 hg zt15 _ _ hmo2 ⟨by rw [hL2.2.1]; simp, by rw [hL2.2.1]; simp⟩
        have k20 : h15 (qA g 14 3) = some (.inr (2, [.int mo3, .ref (qA g 15 3), .int (nI ((List.range (bN s)).map (qA g 10)).length)])) := st_keep hL0 hg zt15 _ _ hmo3 ⟨by rw [hL3.2.1]; simp, by rw [hL3.2.1]; simp⟩
        have k21 : h15 b2 = some (.inr (4, [.int (nI kdb2), .int (nI ppb2), cab2, cbb2, .int (nI (qL g b2)), .int (gI (gtk (qT g b2))), .ref (qN g b2 1), .ref (qN g b2 0)])) := st_keep hL0 hg zt15 _ _ hcb2 ⟨by rw [hrb2]; simp, by rw [hrb2]; simp⟩
        have k22 : h15 (qN g b2 1) = some (.inr (0, [.ref (qN g b2 2), .int 0, .int 0, .int 0])) := st_keep hL0 hg zt15 _ _ x1b2 ⟨by rw [y1b2]; simp, by rw [y1b2]; simp⟩
        have k23 : h15 (qN g b2 2) = some (.inl (gc G 2, (txtOf (qT g b2)).length, .inl gfb2)) := st_keep hL0 hg zt15 _ _ x2b2 ⟨by rw [y2b2]; simp, by rw [y2b2]; simp⟩
        obtain ⟨mm15, ml15⟩ := al15.2.1
        refine v_chk C CA_X4_69 k21 dX4_share_71 ?_
        refine v_astore_n C [(3, .ref b2), (2, .int (nI (qS g).length)), (0, .ref x), (1, .int (nI j2))] rfl (by decide) dX4_share_74 rfl ?_
        have tl2 := (u3b2.up (show qL g b2 ≤ 5 by omega)).txl
        have gb2 : gtk (qT g b2) ≤ 10 := Nat.le_trans u4b2 hw7
        refine v_new C N_X4_69 (Nat.le_of_ble_eq_true rfl) (Nat.le_of_ble_eq_true rfl) dX4_share_75 (fun q24 gq24 nq24 => v_nw (fun h24 eh24 => ?_))
        have k25 : h24 x = some (.inr (7, [.ref (qA g 1 0), .ref (qA g 14 0), .ref (qA g 14 1), .ref (qA g 14 2), .ref (qA g 14 3)])) := by rw [eh24, zup_ne _ _ (zne_new nq24 k16)]; exact k16
        have k26 : h24 (qA g 1 0) = some (.inl (gc G 7, 6, .inr (.inr (.inr (.inr fo))))) := by rw [eh24, zup_ne _ _ (zne_new nq24 k17)]; exact k17
        have k27 : h24 (qA g 14 1) = some (.inr (2, [.int mo1, .ref (qA g 15 1), .int (nI ((List.range (oN s)).map (qA g 3)).length)])) := by rw [eh24, zup_ne _ _ (zne_new nq24 k18)]; exact k18
        have k28 : h24 (qA g 14 2) = some (.inr (2, [.int mo2, .ref (qA g 15 2), .int (nI ((List.range (rN s)).map (qA g 6)).length)])) := by rw [eh24, zup_ne _ _ (zne_new nq24 k19)]; exact k19
        have k29 : h24 (qA g 14 3) = some (.inr (2, [.int mo3, .ref (qA g 15 3), .int (nI ((List.range (bN s)).map (qA g 10)).length)])) := by rw [eh24, zup_ne _ _ (zne_new nq24 k20)]; exact k20
        have k30 : h24 b2 = some (.inr (4, [.int (nI kdb2), .int (nI ppb2), cab2, cbb2, .int (nI (qL g b2)), .int (gI (gtk (qT g b2))), .ref (qN g b2 1), .ref (qN g b2 0)])) := by rw [eh24, zup_ne _ _ (zne_new nq24 k21)]; exact k21
        have k31 : h24 (qN g b2 1) = some (.inr (0, [.ref (qN g b2 2), .int 0, .int 0, .int 0])) := by rw [eh24, zup_ne _ _ (zne_new nq24 k22)]; exact k22
        have k32 : h24 (qN g b2 2) = some (.inl (gc G 2, (txtOf (qT g b2)).length, .inl gfb2)) := by rw [eh24, zup_ne _ _ (zne_new nq24 k23)]; exact k23
        have k33 : h24 (qA g 14 0) = some (.inr (2, [.int mm15, .ref (qA g 15 0), .int (nI (qS g).dropLast.length)])) := by rw [eh24, zup_ne _ _ (zne_new nq24 ml15)]; exact ml15
        have k34 : h24 q24 = some (.inr (4, [.int 0, .int 0, .null, .null, .int 0, .int 0, .null, .null])) := by rw [eh24]; exact zup_self _ _ _
        have nz_q24 : h15 q24 = none := knone (zk_rf (fun _ => False) h15) nq24
        have nh_q24 : h q24 = none := nz_base hg zt15 al15 nz_q24
        refine v_dup C dX4_share_78 rfl ?_
        refine v_iconst (v := 5) C dX4_share_79 (by decide) ?_
        refine v_iload_n C 3 rfl dX4_share_80 rfl ?_
        refine v_aload_n C 0 rfl dX4_share_81 rfl ?_
        refine v_null C dX4_share_82 ?_
        refine v_iload_n C 3 rfl dX4_share_83 rfl ?_
        refine v_aload_n C 0 rfl dX4_share_84 rfl ?_
        refine v_get (v := .ref (qN g b2 1)) C F_X4_128 k30 rfl dX4_share_85 ?_
        refine v_callS (rest := [.null, .ref b2, .int (nI j2), .int 5, .ref q24, .ref q24]) C (c_X4_shareText l hl G j2 (qN g b2 1) (qN g b2 2) gfb2 (txtOf (qT g b2)) h24 (by omega) (⟨k31, k32, x3b2, x4b2, x5b2⟩) (by omega)) S_X4_143 rfl rfl (Nat.le_of_ble_eq_true rfl) ⟨Nat.le_of_ble_eq_true rfl, Nat.le_of_ble_eq_true rfl⟩ ⟨Nat.le_of_ble_eq_true rfl, Nat.le_of_ble_eq_true rfl⟩ dX4_share_88 (fun r35 h35 w35 => ?_)
        obtain ⟨nr35, kp35, tb35, gf35, nb35, tx35, tt35, ts35, tf35⟩ := w35
        have nz_r35 : h15 r35 = none := knone (zk_new (zk_rf (fun _ => False) h15) eh24 nq24) nr35
        have nh_r35 : h r35 = none := nz_base hg zt15 al15 nz_r35
        have nz_tb35 : h15 tb35 = none := knone (zk_new (zk_rf (fun _ => False) h15) eh24 nq24) nb35
        have nh_tb35 : h tb35 = none := nz_base hg zt15 al15 nz_tb35
        have k36 : h35 x = some (.inr (7, [.ref (qA g 1 0), .ref (qA g 14 0), .ref (qA g 14 1), .ref (qA g 14 2), .ref (qA g 14 3)])) := kp35 _ _ id k25
        have k37 : h35 (qA g 1 0) = some (.inl (gc G 7, 6, .inr (.inr (.inr (.inr fo))))) := kp35 _ _ id k26
        have k38 : h35 (qA g 14 1) = some (.inr (2, [.int mo1, .ref (qA g 15 1), .int (nI ((List.range (oN s)).map (qA g 3)).length)])) := kp35 _ _ id k27
        have k39 : h35 (qA g 14 2) = some (.inr (2, [.int mo2, .ref (qA g 15 2), .int (nI ((List.range (rN s)).map (qA g 6)).length)])) := kp35 _ _ id k28
        have k40 : h35 (qA g 14 3) = some (.inr (2, [.int mo3, .ref (qA g 15 3), .int (nI ((List.range (bN s)).map (qA g 10)).length)])) := kp35 _ _ id k29
        have k41 : h35 b2 = some (.inr (4, [.int (nI kdb2), .int (nI ppb2), cab2, cbb2, .int (nI (qL g b2)), .int (gI (gtk (qT g b2))), .ref (qN g b2 1), .ref (qN g b2 0)])) := kp35 _ _ id k30
        have k42 : h35 (qN g b2 1) = some (.inr (0, [.ref (qN g b2 2), .int 0, .int 0, .int 0])) := kp35 _ _ id k31
        have k43 : h35 (qN g b2 2) = some (.inl (gc G 2, (txtOf (qT g b2)).length, .inl gfb2)) := kp35 _ _ id k32
        have k44 : h35 (qA g 14 0) = some (.inr (2, [.int mm15, .ref (qA g 15 0), .int (nI (qS g).dropLast.length)])) := kp35 _ _ id k33
        have k45 : h35 q24 = some (.inr (4, [.int 0, .int 0, .null, .null, .int 0, .int 0, .null, .null])) := kp35 _ _ id k34
        refine v_callI (rest := [.ref q24]) C (c_X1_init_1 l hl G q24 b2 (qL g b2) (gtk (qT g b2)) r35 5 (nI j2) _ _ _ _ _ _ h35 k45 k41 (by omega) (by omega) (zne_new nq24 k21)) I_X4_136 rfl rfl (Nat.le_of_ble_eq_true rfl) ⟨Nat.le_of_ble_eq_true rfl, Nat.le_of_ble_eq_true rfl⟩ ⟨Nat.le_of_ble_eq_true rfl, Nat.le_of_ble_eq_true rfl⟩ dX4_share_91 (fun h46 w46 => ?_)
        obtain ⟨rw46, hc46, hrw46, nrw46, kp46⟩ := w46
        have nz_rw46 : h15 rw46 = none := knone (zk_call (zk_new (zk_rf (fun _ => False) h15) eh24 nq24) kp35 (fun _ _ _ _ z => z)) nrw46
        have nh_rw46 : h rw46 = none := nz_base hg zt15 al15 nz_rw46
        have k47 : h46 x = some (.inr (7, [.ref (qA g 1 0), .ref (qA g 14 0), .ref (qA g 14 1), .ref (qA g 14 2), .ref (qA g 14 3)])) := kp46 _ _ (fun z => (zne_new nq24 k16) z) k36
        have k48 : h46 (qA g 1 0) = some (.inl (gc G 7, 6, .inr (.inr (.inr (.inr fo))))) := kp46 _ _ (fun z => (zne_new nq24 k17) z) k37
        have k49 : h46 (qA g 14 1) = some (.inr (2, [.int mo1, .ref (qA g 15 1), .int (nI ((List.range (oN s)).map (qA g 3)).length)])) := kp46 _ _ (fun z => (zne_new nq24 k18) z) k38
        have k50 : h46 (qA g 14 2) = some (.inr (2, [.int mo2, .ref (qA g 15 2), .int (nI ((List.range (rN s)).map (qA g 6)).length)])) := kp46 _ _ (fun z => (zne_new nq24 k19) z) k39
        have k51 : h46 (qA g 14 3) = some (.inr (2, [.int mo3, .ref (qA g 15 3), .int (nI ((List.range (bN s)).map (qA g 10)).length)])) := kp46 _ _ (fun z => (zne_new nq24 k20) z) k40
        have k52 : h46 b2 = some (.inr (4, [.int (nI kdb2), .int (nI ppb2), cab2, cbb2, .int (nI (qL g b2)), .int (gI (gtk (qT g b2))), .ref (qN g b2 1), .ref (qN g b2 0)])) := kp46 _ _ (fun z => (zne_new nq24 k21) z) k41
        have k53 : h46 (qN g b2 1) = some (.inr (0, [.ref (qN g b2 2), .int 0, .int 0, .int 0])) := kp46 _ _ (fun z => (zne_new nq24 k22) z) k42
        have k54 : h46 (qN g b2 2) = some (.inl (gc G 2, (txtOf (qT g b2)).length, .inl gfb2)) := kp46 _ _ (fun z => (zne_new nq24 k23) z) k43
        have k55 : h46 (qA g 14 0) = some (.inr (2, [.int mm15, .ref (qA g 15 0), .int (nI (qS g).dropLast.length)])) := kp46 _ _ (fun z => (zne_new nq24 ml15) z) k44
        have k56 : h46 r35 = some (.inr (0, [.ref tb35, .int 0, .int 0, .int 0])) := kp46 _ _ (fun z => (Ne.symm (zne_new nr35 k34)) z) tx35
        have k57 : h46 tb35 = some (.inl (gc G 2, (dgl j2 ++ [37, 32, 111, 102, 32] ++ txtOf (qT g b2)).length, .inl gf35)) := kp46 _ _ (fun z => (zne_oi k45 tt35) z) tt35
        refine v_astore C [(4, .ref q24), (3, .ref b2), (2, .int (nI (qS g).length)), (0, .ref x), (1, .int (nI j2))] rfl (by decide) dX4_share_94 ?_
        refine v_aload_n C 3 rfl dX4_share_96 rfl ?_
        refine v_aload C 0 rfl dX4_share_97 ?_
        refine v_ge C (fun hgW => ?_)
        have kpa := (zk_call (zk_call (zk_new (zk_rf (fun _ => False) h15) eh24 nq24) kp35 (fun _ _ _ _ z => z)) kp46 (fun b e hb _ z => by rw [z, nz_q24] at hb; cases hb))
        have alW := al_kp al15 kpa
        refine v_callV (rest := []) C (c_X4_push l hl G x (qA g 1 0) (qA g 14 0) (qA g 14 1) (qA g 14 2) (qA g 14 3) q24 (qA g 15 0) (qS g).dropLast _ h46 k47 alW (by simp only [List.length_dropLast]; omega) hc46 (x_ar hO hL0 hg).1 (x_ar hO hL0 hg).2) K_X4_80 k47 rfl rfl (Nat.le_of_ble_eq_true rfl) ⟨Nat.le_of_ble_eq_true rfl, Nat.le_of_ble_eq_true rfl⟩ ⟨Nat.le_of_ble_eq_true rfl, Nat.le_of_ble_eq_true rfl⟩ dX4_share_99 (fun i58 h58 w58 => ?_)
        obtain ⟨ei58, ar58, al58, zs58⟩ := w58; subst ei58
        refine v_ge C (fun hg2 => ?_)
        have hcq := stn al15 hgW zs58 nz_q24 hc46
        have hct := stn al15 hgW zs58 nz_r35 k56
        have hcb := stn al15 hgW zs58 nz_tb35 k57
        have hrw := stn al15 hgW zs58 nz_rw46 hrw46
        have zf := zSt.trans zt15 (zSt.pre kpa zs58) ml15
        refine v_pop C dX4_share_102 rfl ?_
        refine v_aload C 0 rfl dX4_share_103 ?_
        refine v_get (v := .int (nI (1 + max (qL g b2) 0))) C F_X4_147 hcq rfl dX4_share_105 ?_
        have ek : (kShare s (nI j2)) = 0 := by simp [kShare, inN, wth, c1, z8, z12]
        have htxt : dgl j2 ++ [37, 32, 111, 102, 32] ++ txtOf (qT g b2) = txtOf (qT g b2 ++ [(7, j2)]) := (txt_share u3b2).symm
        have hgl : max (gtk (qT g b2)) 0 = gtk (qT g b2 ++ [(7, j2)]) := by
            rw [gtk_app]; rfl
        have hlz : 1 + max (qL g b2) 0 = qL g b2 + 1 := by omega
        rw [htxt] at hcb ts35; rw [hgl, hlz] at hcq
        have hWL : WL (oL s) (qL g b2 + 1) (qT g b2 ++ [(7, j2)]) := Or.inr (Or.inr (Or.inr (Or.inr (Or.inl ⟨j2, qT g b2, by omega, u3b2, rfl⟩))))
        exact v_iret C hQ hr rfl (Nat.le_of_ble_eq_true rfl) (Nat.le_of_ble_eq_true rfl) dX4_share_108 ⟨ek, (by rw [et1]; exact congrArg nI (show 1 + max (qL g b2) 0 = qL g b2 + 1 by omega)), (by show XQ G h _ g x (s.1, (oS s).dropLast ++ [((top1 s).1 ++ [(7, cl (nI j2))], (top1 s).2 + 1)], s.2.2); rw [et1, eCp, hS.2, ← map_dl]; exact XI.node (tb := tb35) (kd := 5) (p := j2) (a3 := b2) (a4 := b2) (t := (qT g b2 ++ [(7, j2)])) (lv := (qL g b2 + 1)) (base := (qS g).dropLast) hi hg hg2 zf al58 (fun _ ha => mem_dl ha) nh_q24 nh_r35 nh_tb35 hcq hct hcb ts35 tf35 (by omega) (by omega) hWL (by rw [← hgl]; omega) (Or.inr (nk_S rfl rfl nh_q24 hcb2 hrb2 (by omega) (gN_row hcq hct hcb al58 hrw nh_rw46) hrw)))⟩
      · rw [zb_f c11] at e11; subst e11
        have z59 : (top1 s).2 = 6 := by rw [et1]; show qL g b2 = 6; omega
        refine v_if_ne (tgt := 61) C dX4_share_48 (by decide) (fun c60 => absurd c60 (by decide)) (fun c60 => ?_)
        have ek : (kShare s (nI j2)) = 2 := by simp [kShare, inN, wth, c1, z8, z59]
        exact v_throwS C (TH_64 (i := 141) (tx := "no formula, or one of the highest level") (by decide)) hto dX4_share_51 dX4_share_54 dX4_share_55 dX4_share_57 dX4_share_60 (Nat.le_of_ble_eq_true rfl) (Nat.le_of_ble_eq_true rfl) ⟨Nat.le_of_ble_eq_true rfl, Nat.le_of_ble_eq_true rfl⟩ ⟨Nat.le_of_ble_eq_true rfl, Nat.le_of_ble_eq_true rfl⟩ ⟨rfl, Or.inr (⟨ek, rfl⟩)⟩
  · rw [zb_f c1] at e1; subst e1
    refine v_if_ne (tgt := 20) C dX4_share_7 (by decide) (fun c62 => absurd c62 (by decide)) (fun c62 => ?_)
    have ek : (kShare s p) = 1 := by simp [kShare, inN, wth, c1]
    exact v_throwS C (TH_50 (i := 139) (tx := "the percents are out of their range") (by decide)) hto dX4_share_10 dX4_share_13 dX4_share_14 dX4_share_16 dX4_share_19 (Nat.le_of_ble_eq_true rfl) (Nat.le_of_ble_eq_true rfl) ⟨Nat.le_of_ble_eq_true rfl, Nat.le_of_ble_eq_true rfl⟩ ⟨Nat.le_of_ble_eq_true rfl, Nat.le_of_ble_eq_true rfl⟩ ⟨rfl, Or.inl ⟨ek, rfl⟩⟩
set_option maxHeartbeats 4000000 in
set_option maxRecDepth 100000 in
theorem c_X4_year (l : Launch) (hl : l.stackTraces = false) (G : zG) (x : Nat) (g : XGh) (s : ZS)  (h : zH) (hi : XI G h g x s) (hw : WFs s)  : zMetX eI l yX4_year cX4_year 4 (some .int) 19 20 9000 G [.ref x] h (fun res h2 => (kYear s) = 0 ∧ res = nI ((top1 s).2 + 1) ∧ XQ G h h2 g x (nYear s)) (fun E h2 => h2 = h ∧ (((kYear s) = 1 ∧ E = "java/lang/IllegalStateException"))) := by
  refine con_ofX hl RX4 rfl (by decide +kernel) [(0, .ref x)] rfl (Nat.le_of_ble_eq_true rfl) ?_
  intro zp ze zs zm zargs zbelow zmeth zc C hr hin hto hQ
  obtain ⟨⟨hO, hA, ⟨hL0, hL1, hL2, hL3⟩, hS, hN, hT, hR, hB⟩, hV⟩ := id hi
  obtain ⟨mo0, hmo0⟩ := hL0.1.2.1
  obtain ⟨mo1, hmo1⟩ := hL1.1.2.1
  obtain ⟨mo2, hmo2⟩ := hL2.1.2.1
  obtain ⟨mo3, hmo3⟩ := hL3.1.2.1
  obtain ⟨fo, to, qo⟩ := hO.2.2.2
  have eS : (oS s).length = (qS g).length := by rw [hS.2, List.length_map]
  have hw2 : (oS s).length ≤ 8 := hw.1
  have hw7 : oN s ≤ 10 := hw.2.2.1.1
  have hw17 : rN s ≤ 6 := hw.2.2.2.2.1.1
  have hw25 : bN s ≤ 6 := hw.2.2.2.2.2.1
  refine v_ge C (fun hg => ?_)
  refine v_aload_n C 0 rfl dX4_year_0 rfl ?_
  refine v_get (v := .ref (qA g 14 0)) C F_X4_17 hO.1 rfl dX4_year_1 ?_
  refine v_callV (rest := []) C (c_Jx4a65c_size_8abf5 l hl G (qA g 14 0) (qA g 15 0) (qS g) h hL0.1) K_X4_60 hmo0 rfl rfl (Nat.le_of_ble_eq_true rfl) ⟨Nat.le_of_ble_eq_true rfl, Nat.le_of_ble_eq_true rfl⟩ ⟨Nat.le_of_ble_eq_true rfl, Nat.le_of_ble_eq_true rfl⟩ dX4_year_4 (fun i1 h1 q1 => ?_)
  obtain ⟨e1, rfl⟩ := q1; subst e1
  refine v_istore_n C [(1, .int (nI (qS g).length)), (0, .ref x)] rfl (by decide) dX4_year_7 rfl ?_
  refine v_iload_n C 0 rfl dX4_year_8 rfl ?_
  refine v_if_eq (tgt := 31) C dX4_year_9 (by decide) (fun c2 => ?_) (fun c2 => ?_)
  · have c2 := (nk_eq (a := (qS g).length) 0 (by decide) (by omega) (by decide)).mp c2
    have z3 : (oS s).length = 0 := by omega
    have ek : (kYear s) = 1 := by simp [kYear, inN, wth, z3]
    exact v_throwS C (TH_64 (i := 141) (tx := "no formula, or one of the highest level") (by decide)) hto dX4_year_31 dX4_year_34 dX4_year_35 dX4_year_37 dX4_year_40 (Nat.le_of_ble_eq_true rfl) (Nat.le_of_ble_eq_true rfl) ⟨Nat.le_of_ble_eq_true rfl, Nat.le_of_ble_eq_true rfl⟩ ⟨Nat.le_of_ble_eq_true rfl, Nat.le_of_ble_eq_true rfl⟩ ⟨rfl, ⟨ek, rfl⟩⟩
  · have c2 := (nk_eq_f (a := (qS g).length) 0 (by decide) (by omega) (by decide)).mp c2
    have z5 : ¬ (oS s).length = 0 := by omega
    obtain ⟨b2, eb2⟩ : ∃ z, z = (qS g).getD ((qS g).length - 1) 0 := ⟨_, rfl⟩
    have hrb2 : qR g b2 = (11, 0) := hS.1 _ (by rw [eb2]; exact getD_memN (by omega))
    obtain ⟨u1b2, u2b2, u3b2, u4b2, ⟨⟨gfb2, x1b2, x2b2, x3b2, x4b2, x5b2⟩, y1b2, y2b2⟩, kdb2, ppb2, cab2, cbb2, hcb2, -⟩ := hN _ hrb2
    have et1 : top1 s = (qT g b2, qL g b2) := by unfold top1; rw [eS, eb2]; exact stk_get hS (by omega)
    refine v_aload_n C 1 rfl dX4_year_12 rfl ?_
    refine v_get (v := .ref (qA g 14 0)) C F_X4_17 hO.1 rfl dX4_year_13 ?_
    refine v_iload_n C 0 rfl dX4_year_16 rfl ?_
    refine v_iconst (v := 1) C dX4_year_17 (by decide) ?_
    refine v_isub C dX4_year_18 (v_eqi (nI_sbk (a := (qS g).length) 1 (by decide) (by omega)) ?_)
    refine v_callV (rest := []) C (c_Jx4a65c_get_915e3 l hl G (qA g 14 0) (qA g 15 0) (qS g) (((qS g).length) - 1) h hL0.1 (by omega)) K_X4_99 hmo0 rfl rfl (Nat.le_of_ble_eq_true rfl) ⟨Nat.le_of_ble_eq_true rfl, Nat.le_of_ble_eq_true rfl⟩ ⟨Nat.le_of_ble_eq_true rfl, Nat.le_of_ble_eq_true rfl⟩ dX4_year_19 (fun i7 h7 q7 => ?_)
    obtain ⟨e7, rfl⟩ := q7; rw [← eb2] at e7; have ey7 := e7.symm; subst ey7
    refine v_chk C CA_X4_69 hcb2 dX4_year_22 ?_
    refine v_callS (rest := []) C (c_X4_canGrow l hl G b2 (qL g b2) _ _ _ _ .null _ _ _ h hcb2 (by omega)) S_X4_119 rfl rfl (Nat.le_of_ble_eq_true rfl) ⟨Nat.le_of_ble_eq_true rfl, Nat.le_of_ble_eq_true rfl⟩ ⟨Nat.le_of_ble_eq_true rfl, Nat.le_of_ble_eq_true rfl⟩ dX4_year_25 (fun i8 h8 q8 => ?_)
    obtain ⟨e8, rfl⟩ := q8
    by_cases c8 : qL g b2 < 6
    · rw [zb_t c8] at e8; subst e8
      have z9 : ¬ (top1 s).2 = 6 := by rw [et1]; show ¬ qL g b2 = 6; omega
      refine v_if_ne (tgt := 41) C dX4_year_28 (by decide) (fun c10 => ?_) (fun c10 => absurd c10 (by decide))
      refine v_aload_n C 1 rfl dX4_year_41 rfl ?_
      refine v_get (v := .ref (qA g 14 0)) C F_X4_17 hO.1 rfl dX4_year_42 ?_
      refine v_iload_n C 0 rfl dX4_year_45 rfl ?_
      refine v_iconst (v := 1) C dX4_year_46 (by decide) ?_
      refine v_isub C dX4_year_47 (v_eqi (nI_sbk (a := (qS g).length) 1 (by decide) (by omega)) ?_)
      refine v_callV (rest := []) C (c_Jx4a65c_remove_915e3 l hl G (qA g 14 0) (qA g 15 0) (qS g) h hL0.1 (by omega)) K_X4_125 hmo0 rfl rfl (Nat.le_of_ble_eq_true rfl) ⟨Nat.le_of_ble_eq_true rfl, Nat.le_of_ble_eq_true rfl⟩ ⟨Nat.le_of_ble_eq_true rfl, Nat.le_of_ble_eq_true rfl⟩ dX4_year_48 (fun i12 h12 w12 => ?_)
      obtain ⟨e12, ar12, al12, zs12, ea12⟩ := w12; subst ea12
      rw [← eb2] at e12; have ey12 := e12.symm; subst ey12
      have zt12 := zs12
      have k13 : h12 x = some (.inr (7, [.ref (qA g 1 0), .ref (qA g 14 0), .ref (qA g 14 1), .ref (qA g 14 2), .ref (qA g 14 3)])) := st_keep hL0 hg zt12 _ _ hO.1 ⟨by rw [hO.2.1]; simp, by rw [hO.2.1]; simp⟩
      have k14 : h12 (qA g 1 0) = some (.inl (gc G 7, 6, .inr (.inr (.inr (.inr fo))))) := st_keep hL0 hg zt12 _ _ to ⟨by rw [hO.2.2.1]; simp, by rw [hO.2.2.1]; simp⟩
      have k15 : h12 (qA g 14 1) = some (.inr (2, [.int mo1, .ref (qA g 15 1), .int (nI ((List.range (oN s)).map (qA g 3)).length)])) := st_keep hL0 hg zt12 _ _ hmo1 ⟨by rw [hL1.2.1]; simp, by rw [hL1.2.1]; simp⟩
      have k16 : h12 (qA g 14 2) = some (.inr (2, [.int mo2, .ref (qA g 15 2), .int (nI ((List.range (rN s)).map (qA g 6)).length)])) := st_keep hL0 hg zt12 _ _ hmo2 ⟨by rw [hL2.2.1]; simp, by rw [hL2.2.1]; simp⟩
      have k17 : h12 (qA g 14 3) = some (.inr (2, [.int mo3, .ref (qA g 15 3), .int (nI ((List.range (bN s)).map (qA g 10)).length)])) := st_keep hL0 hg zt12 _ _ hmo3 ⟨by rw [hL3.2.1]; simp, by rw [hL3.2.1]; simp⟩
      have k18 : h12 b2 = some (.inr (4, [.int (nI kdb2), .int (nI ppb2), cab2, cbb2, .int (nI (qL g b2)), .int (gI (gtk (qT g b2))), .ref (qN g b2 1), .ref (qN g b2 0)])) := st_keep hL0 hg zt12 _ _ hcb2 ⟨by rw [hrb2]; simp, by rw [hrb2]; simp⟩
      have k19 : h12 (qN g b2 1) = some (.inr (0, [.ref (qN g b2 2), .int 0, .int 0, .int 0])) := st_keep hL0 hg zt12 _ _ x1b2 ⟨by rw [y1b2]; simp, by rw [y1b2]; simp⟩
      have k20 : h12 (qN g b2 2) = some (.inl (gc G 2, (txtOf (qT g b2)).length, .inl gfb2)) := st_keep hL0 hg zt12 _ _ x2b2 ⟨by rw [y2b2]; simp, by rw [y2b2]; simp⟩
      obtain ⟨mm12, ml12⟩ := al12.2.1
      refine v_chk C CA_X4_69 k18 dX4_year_51 ?_
      refine v_astore_n C [(2, .ref b2), (1, .int (nI (qS g).length)), (0, .ref x)] rfl (by decide) dX4_year_54 rfl ?_
      have tl2 := (u3b2.up (show qL g b2 ≤ 5 by omega)).txl
      have gb2 : gtk (qT g b2) ≤ 10 := Nat.le_trans u4b2 hw7
      refine v_new C N_X4_69 (Nat.le_of_ble_eq_true rfl) (Nat.le_of_ble_eq_true rfl) dX4_year_55 (fun q21 gq21 nq21 => v_nw (fun h21 eh21 => ?_))
      have k22 : h21 x = some (.inr (7, [.ref (qA g 1 0), .ref (qA g 14 0), .ref (qA g 14 1), .ref (qA g 14 2), .ref (qA g 14 3)])) := by rw [eh21, zup_ne _ _ (zne_new nq21 k13)]; exact k13
      have k23 : h21 (qA g 1 0) = some (.inl (gc G 7, 6, .inr (.inr (.inr (.inr fo))))) := by rw [eh21, zup_ne _ _ (zne_new nq21 k14)]; exact k14
      have k24 : h21 (qA g 14 1) = some (.inr (2, [.int mo1, .ref (qA g 15 1), .int (nI ((List.range (oN s)).map (qA g 3)).length)])) := by rw [eh21, zup_ne _ _ (zne_new nq21 k15)]; exact k15
      have k25 : h21 (qA g 14 2) = some (.inr (2, [.int mo2, .ref (qA g 15 2), .int (nI ((List.range (rN s)).map (qA g 6)).length)])) := by rw [eh21, zup_ne _ _ (zne_new nq21 k16)]; exact k16
      have k26 : h21 (qA g 14 3) = some (.inr (2, [.int mo3, .ref (qA g 15 3), .int (nI ((List.range (bN s)).map (qA g 10)).length)])) := by rw [eh21, zup_ne _ _ (zne_new nq21 k17)]; exact k17
      have k27 : h21 b2 = some (.inr (4, [.int (nI kdb2), .int (nI ppb2), cab2, cbb2, .int (nI (qL g b2)), .int (gI (gtk (qT g b2))), .ref (qN g b2 1), .ref (qN g b2 0)])) := by rw [eh21, zup_ne _ _ (zne_new nq21 k18)]; exact k18
      have k28 : h21 (qN g b2 1) = some (.inr (0, [.ref (qN g b2 2), .int 0, .int 0, .int 0])) := by rw [eh21, zup_ne _ _ (zne_new nq21 k19)]; exact k19
      have k29 : h21 (qN g b2 2) = some (.inl (gc G 2, (txtOf (qT g b2)).length, .inl gfb2)) := by rw [eh21, zup_ne _ _ (zne_new nq21 k20)]; exact k20
      have k30 : h21 (qA g 14 0) = some (.inr (2, [.int mm12, .ref (qA g 15 0), .int (nI (qS g).dropLast.length)])) := by rw [eh21, zup_ne _ _ (zne_new nq21 ml12)]; exact ml12
      have k31 : h21 q21 = some (.inr (4, [.int 0, .int 0, .null, .null, .int 0, .int 0, .null, .null])) := by rw [eh21]; exact zup_self _ _ _
      have nz_q21 : h12 q21 = none := knone (zk_rf (fun _ => False) h12) nq21
      have nh_q21 : h q21 = none := nz_base hg zt12 al12 nz_q21
      refine v_dup C dX4_year_58 rfl ?_
      refine v_bipush (v := 6) C dX4_year_59 (by decide) ?_
      refine v_iconst (v := 0) C dX4_year_61 (by decide) ?_
      refine v_aload_n C 0 rfl dX4_year_62 rfl ?_
      refine v_null C dX4_year_63 ?_
      refine v_aload_n C 0 rfl dX4_year_64 rfl ?_
      refine v_get (v := .ref (qN g b2 1)) C F_X4_128 k27 rfl dX4_year_65 ?_
      refine v_callS (rest := [.null, .ref b2, .int 0, .int 6, .ref q21, .ref q21]) C (c_X4_yearText l hl G (qN g b2 1) (qN g b2 2) gfb2 (txtOf (qT g b2)) h21 (⟨k28, k29, x3b2, x4b2, x5b2⟩) (by omega)) S_X4_148 rfl rfl (Nat.le_of_ble_eq_true rfl) ⟨Nat.le_of_ble_eq_true rfl, Nat.le_of_ble_eq_true rfl⟩ ⟨Nat.le_of_ble_eq_true rfl, Nat.le_of_ble_eq_true rfl⟩ dX4_year_68 (fun r32 h32 w32 => ?_)
      obtain ⟨nr32, kp32, tb32, gf32, nb32, tx32, tt32, ts32, tf32⟩ := w32
      have nz_r32 : h12 r32 = none := knone (zk_new (zk_rf (fun _ => False) h12) eh21 nq21) nr32
      have nh_r32 : h r32 = none := nz_base hg zt12 al12 nz_r32
      have nz_tb32 : h12 tb32 = none := knone (zk_new (zk_rf (fun _ => False) h12) eh21 nq21) nb32
      have nh_tb32 : h tb32 = none := nz_base hg zt12 al12 nz_tb32
      have k33 : h32 x = some (.inr (7, [.ref (qA g 1 0), .ref (qA g 14 0), .ref (qA g 14 1), .ref (qA g 14 2), .ref (qA g 14 3)])) := kp32 _ _ id k22
      have k34 : h32 (qA g 1 0) = some (.inl (gc G 7, 6, .inr (.inr (.inr (.inr fo))))) := kp32 _ _ id k23
      have k35 : h32 (qA g 14 1) = some (.inr (2, [.int mo1, .ref (qA g 15 1), .int (nI ((List.range (oN s)).map (qA g 3)).length)])) := kp32 _ _ id k24
      have k36 : h32 (qA g 14 2) = some (.inr (2, [.int mo2, .ref (qA g 15 2), .int (nI ((List.range (rN s)).map (qA g 6)).length)])) := kp32 _ _ id k25
      have k37 : h32 (qA g 14 3) = some (.inr (2, [.int mo3, .ref (qA g 15 3), .int (nI ((List.range (bN s)).map (qA g 10)).length)])) := kp32 _ _ id k26
      have k38 : h32 b2 = some (.inr (4, [.int (nI kdb2), .int (nI ppb2), cab2, cbb2, .int (nI (qL g b2)), .int (gI (gtk (qT g b2))), .ref (qN g b2 1), .ref (qN g b2 0)])) := kp32 _ _ id k27
      have k39 : h32 (qN g b2 1) = some (.inr (0, [.ref (qN g b2 2), .int 0, .int 0, .int 0])) := kp32 _ _ id k28
      have k40 : h32 (qN g b2 2) = some (.inl (gc G 2, (txtOf (qT g b2)).length, .inl gfb2)) := kp32 _ _ id k29
      have k41 : h32 (qA g 14 0) = some (.inr (2, [.int mm12, .ref (qA g 15 0), .int (nI (qS g).dropLast.length)])) := kp32 _ _ id k30
      have k42 : h32 q21 = some (.inr (4, [.int 0, .int 0, .null, .null, .int 0, .int 0, .null, .null])) := kp32 _ _ id k31
      refine v_callI (rest := [.ref q21]) C (c_X1_init_1 l hl G q21 b2 (qL g b2) (gtk (qT g b2)) r32 6 0 _ _ _ _ _ _ h32 k42 k38 (by omega) (by omega) (zne_new nq21 k18)) I_X4_136 rfl rfl (Nat.le_of_ble_eq_true rfl) ⟨Nat.le_of_ble_eq_true rfl, Nat.le_of_ble_eq_true rfl⟩ ⟨Nat.le_of_ble_eq_true rfl, Nat.le_of_ble_eq_true rfl⟩ dX4_year_71 (fun h43 w43 => ?_)
      obtain ⟨rw43, hc43, hrw43, nrw43, kp43⟩ := w43
      have nz_rw43 : h12 rw43 = none := knone (zk_call (zk_new (zk_rf (fun _ => False) h12) eh21 nq21) kp32 (fun _ _ _ _ z => z)) nrw43
      have nh_rw43 : h rw43 = none := nz_base hg zt12 al12 nz_rw43
      have k44 : h43 x = some (.inr (7, [.ref (qA g 1 0), .ref (qA g 14 0), .ref (qA g 14 1), .ref (qA g 14 2), .ref (qA g 14 3)])) := kp43 _ _ (fun z => (zne_new nq21 k13) z) k33
      have k45 : h43 (qA g 1 0) = some (.inl (gc G 7, 6, .inr (.inr (.inr (.inr fo))))) := kp43 _ _ (fun z => (zne_new nq21 k14) z) k34
      have k46 : h43 (qA g 14 1) = some (.inr (2, [.int mo1, .ref (qA g 15 1), .int (nI ((List.range (oN s)).map (qA g 3)).length)])) := kp43 _ _ (fun z => (zne_new nq21 k15) z) k35
      have k47 : h43 (qA g 14 2) = some (.inr (2, [.int mo2, .ref (qA g 15 2), .int (nI ((List.range (rN s)).map (qA g 6)).length)])) := kp43 _ _ (fun z => (zne_new nq21 k16) z) k36
      have k48 : h43 (qA g 14 3) = some (.inr (2, [.int mo3, .ref (qA g 15 3), .int (nI ((List.range (bN s)).map (qA g 10)).length)])) := kp43 _ _ (fun z => (zne_new nq21 k17) z) k37
      have k49 : h43 b2 = some (.inr (4, [.int (nI kdb2), .int (nI ppb2), cab2, cbb2, .int (nI (qL g b2)), .int (gI (gtk (qT g b2))), .ref (qN g b2 1), .ref (qN g b2 0)])) := kp43 _ _ (fun z => (zne_new nq21 k18) z) k38
      have k50 : h43 (qN g b2 1) = some (.inr (0, [.ref (qN g b2 2), .int 0, .int 0, .int 0])) := kp43 _ _ (fun z => (zne_new nq21 k19) z) k39
      have k51 : h43 (qN g b2 2) = some (.inl (gc G 2, (txtOf (qT g b2)).length, .inl gfb2)) := kp43 _ _ (fun z => (zne_new nq21 k20) z) k40
      have k52 : h43 (qA g 14 0) = some (.inr (2, [.int mm12, .ref (qA g 15 0), .int (nI (qS g).dropLast.length)])) := kp43 _ _ (fun z => (zne_new nq21 ml12) z) k41
      have k53 : h43 r32 = some (.inr (0, [.ref tb32, .int 0, .int 0, .int 0])) := kp43 _ _ (fun z => (Ne.symm (zne_new nr32 k31)) z) tx32
      have k54 : h43 tb32 = some (.inl (gc G 2, ([121, 101, 97, 114, 40] ++ txtOf (qT g b2) ++ [41]).length, .inl gf32)) := kp43 _ _ (fun z => (zne_oi k42 tt32) z) tt32
      refine v_astore_n C [(3, .ref q21), (2, .ref b2), (1, .int (nI (qS g).length)), (0, .ref x)] rfl (by decide) dX4_year_74 rfl ?_
      refine v_aload_n C 3 rfl dX4_year_75 rfl ?_
      refine v_aload_n C 0 rfl dX4_year_76 rfl ?_
      refine v_ge C (fun hgW => ?_)
      have kpa := (zk_call (zk_call (zk_new (zk_rf (fun _ => False) h12) eh21 nq21) kp32 (fun _ _ _ _ z => z)) kp43 (fun b e hb _ z => by rw [z, nz_q21] at hb; cases hb))
      have alW := al_kp al12 kpa
      refine v_callV (rest := []) C (c_X4_push l hl G x (qA g 1 0) (qA g 14 0) (qA g 14 1) (qA g 14 2) (qA g 14 3) q21 (qA g 15 0) (qS g).dropLast _ h43 k44 alW (by simp only [List.length_dropLast]; omega) hc43 (x_ar hO hL0 hg).1 (x_ar hO hL0 hg).2) K_X4_80 k44 rfl rfl (Nat.le_of_ble_eq_true rfl) ⟨Nat.le_of_ble_eq_true rfl, Nat.le_of_ble_eq_true rfl⟩ ⟨Nat.le_of_ble_eq_true rfl, Nat.le_of_ble_eq_true rfl⟩ dX4_year_77 (fun i55 h55 w55 => ?_)
      obtain ⟨ei55, ar55, al55, zs55⟩ := w55; subst ei55
      refine v_ge C (fun hg2 => ?_)
      have hcq := stn al12 hgW zs55 nz_q21 hc43
      have hct := stn al12 hgW zs55 nz_r32 k53
      have hcb := stn al12 hgW zs55 nz_tb32 k54
      have hrw := stn al12 hgW zs55 nz_rw43 hrw43
      have zf := zSt.trans zt12 (zSt.pre kpa zs55) ml12
      refine v_pop C dX4_year_80 rfl ?_
      refine v_aload_n C 0 rfl dX4_year_81 rfl ?_
      refine v_get (v := .int (nI (1 + max (qL g b2) 0))) C F_X4_147 hcq rfl dX4_year_82 ?_
      have ek : (kYear s) = 0 := by simp [kYear, inN, wth, z5, z9]
      have htxt : [121, 101, 97, 114, 40] ++ txtOf (qT g b2) ++ [41] = txtOf (qT g b2 ++ [(8, 0)]) := (txt_year u3b2).symm
      have hgl : max (gtk (qT g b2)) 0 = gtk (qT g b2 ++ [(8, 0)]) := by
          rw [gtk_app]; rfl
      have hlz : 1 + max (qL g b2) 0 = qL g b2 + 1 := by omega
      rw [htxt] at hcb ts32; rw [hgl, hlz] at hcq
      have hWL : WL (oL s) (qL g b2 + 1) (qT g b2 ++ [(8, 0)]) := Or.inr (Or.inr (Or.inr (Or.inr (Or.inr ⟨qT g b2, u3b2, rfl⟩))))
      exact v_iret C hQ hr rfl (Nat.le_of_ble_eq_true rfl) (Nat.le_of_ble_eq_true rfl) dX4_year_85 ⟨ek, (by rw [et1]; exact congrArg nI (show 1 + max (qL g b2) 0 = qL g b2 + 1 by omega)), (by show XQ G h _ g x (s.1, (oS s).dropLast ++ [((top1 s).1 ++ [(8, 0)], (top1 s).2 + 1)], s.2.2); rw [et1, hS.2, ← map_dl]; exact XI.node (tb := tb32) (kd := 6) (p := 0) (a3 := b2) (a4 := b2) (t := (qT g b2 ++ [(8, 0)])) (lv := (qL g b2 + 1)) (base := (qS g).dropLast) hi hg hg2 zf al55 (fun _ ha => mem_dl ha) nh_q21 nh_r32 nh_tb32 hcq hct hcb ts32 tf32 (by omega) (by omega) hWL (by rw [← hgl]; omega) (Or.inr (nk_Y rfl rfl nh_q21 hcb2 hrb2 (gN_row hcq hct hcb al55 hrw nh_rw43) hrw)))⟩
    · rw [zb_f c8] at e8; subst e8
      have z56 : (top1 s).2 = 6 := by rw [et1]; show qL g b2 = 6; omega
      refine v_if_ne (tgt := 41) C dX4_year_28 (by decide) (fun c57 => absurd c57 (by decide)) (fun c57 => ?_)
      have ek : (kYear s) = 1 := by simp [kYear, inN, wth, z5, z56]
      exact v_throwS C (TH_64 (i := 141) (tx := "no formula, or one of the highest level") (by decide)) hto dX4_year_31 dX4_year_34 dX4_year_35 dX4_year_37 dX4_year_40 (Nat.le_of_ble_eq_true rfl) (Nat.le_of_ble_eq_true rfl) ⟨Nat.le_of_ble_eq_true rfl, Nat.le_of_ble_eq_true rfl⟩ ⟨Nat.le_of_ble_eq_true rfl, Nat.le_of_ble_eq_true rfl⟩ ⟨rfl, ⟨ek, rfl⟩⟩

set_option maxHeartbeats 4000000 in
set_option maxRecDepth 100000 in
theorem c_X4_test (l : Launch) (hl : l.stackTraces = false) (G : zG) (x : Nat) (g : XGh) (s : ZS) (a b : Int32) (h : zH) (hi : XI G h g x s) (hw : WFs s)  : zMetX eI l yX4_test cX4_test 3 (some .int) 16 10 8000 G [.ref x, .int a, .int b] h (fun res h2 => (kTest s a b) = 0 ∧ res = nI (rN s) ∧ XQ G h h2 g x (nTest s a b)) (fun E h2 => h2 = h ∧ (((kTest s a b) = 1 ∧ E = "java/lang/IndexOutOfBoundsException") ∨ ((kTest s a b) = 2 ∧ E = "java/lang/IllegalStateException"))) := by
  refine con_ofX hl RX4 rfl (by decide +kernel) [(0, .ref x), (1, .int a), (2, .int b)] rfl (Nat.le_of_ble_eq_true rfl) ?_
  intro zp ze zs zm zargs zbelow zmeth zc C hr hin hto hQ
  obtain ⟨⟨hO, hA, ⟨hL0, hL1, hL2, hL3⟩, hS, hN, hT, hR, hB⟩, hV⟩ := id hi
  obtain ⟨mo0, hmo0⟩ := hL0.1.2.1
  obtain ⟨mo1, hmo1⟩ := hL1.1.2.1
  obtain ⟨mo2, hmo2⟩ := hL2.1.2.1
  obtain ⟨mo3, hmo3⟩ := hL3.1.2.1
  obtain ⟨fo, to, qo⟩ := hO.2.2.2
  have eS : (oS s).length = (qS g).length := by rw [hS.2, List.length_map]
  have hw2 : (oS s).length ≤ 8 := hw.1
  have hw7 : oN s ≤ 10 := hw.2.2.1.1
  have hw17 : rN s ≤ 6 := hw.2.2.2.2.1.1
  have hw25 : bN s ≤ 6 := hw.2.2.2.2.2.1
  refine v_ge C (fun hg => ?_)
  refine v_aload_n C 0 rfl dX4_test_0 rfl ?_
  refine v_iload_n C 1 rfl dX4_test_1 rfl ?_
  refine v_callV (rest := []) C (c_X4_isTerm l hl G x (qA g 1 0) (qA g 14 0) (qA g 14 1) (qA g 14 2) (qA g 14 3) (qA g 15 1) ((List.range (oN s)).map (qA g 3)) a h hO.1 hL1.1) K_X4_94 hO.1 rfl rfl (Nat.le_of_ble_eq_true rfl) ⟨Nat.le_of_ble_eq_true rfl, Nat.le_of_ble_eq_true rfl⟩ ⟨Nat.le_of_ble_eq_true rfl, Nat.le_of_ble_eq_true rfl⟩ dX4_test_2 (fun i1 h1 q1 => ?_)
  obtain ⟨e1, rfl⟩ := q1; rw [mr_len] at e1
  by_cases c1 : inN a (oN s)
  · rw [zb_t c1] at e1; subst e1
    obtain ⟨j2, hj2, en2⟩ := inN.nat c1 (by omega)
    subst en2
    have eCa : cl (nI j2) = j2 := cl_nI (by omega)
    obtain ⟨r3a, r4a, r5a, t3a, ⟨fda, t4a, hdfa⟩, -⟩ := hT j2 (by omega)
    obtain ⟨va, t5a, qva⟩ := hV j2 (by omega)
    obtain ⟨oL1a, oL6a, -⟩ := hw.2.2.1.2.1 j2 (by omega)
    refine v_if_eq (tgt := 16) C dX4_test_5 (by decide) (fun c3 => absurd c3 (by decide)) (fun c3 => ?_)
    refine v_aload_n C 0 rfl dX4_test_8 rfl ?_
    refine v_iload_n C 2 rfl dX4_test_9 rfl ?_
    refine v_callV (rest := []) C (c_X4_isTerm l hl G x (qA g 1 0) (qA g 14 0) (qA g 14 1) (qA g 14 2) (qA g 14 3) (qA g 15 1) ((List.range (oN s)).map (qA g 3)) b h hO.1 hL1.1) K_X4_94 hO.1 rfl rfl (Nat.le_of_ble_eq_true rfl) ⟨Nat.le_of_ble_eq_true rfl, Nat.le_of_ble_eq_true rfl⟩ ⟨Nat.le_of_ble_eq_true rfl, Nat.le_of_ble_eq_true rfl⟩ dX4_test_10 (fun i4 h4 q4 => ?_)
    obtain ⟨e4, rfl⟩ := q4; rw [mr_len] at e4
    by_cases c4 : inN b (oN s)
    · rw [zb_t c4] at e4; subst e4
      obtain ⟨j5, hj5, en5⟩ := inN.nat c4 (by omega)
      subst en5
      have eCb : cl (nI j5) = j5 := cl_nI (by omega)
      obtain ⟨r3b, r4b, r5b, t3b, ⟨fdb, t4b, hdfb⟩, -⟩ := hT j5 (by omega)
      obtain ⟨vb, t5b, qvb⟩ := hV j5 (by omega)
      obtain ⟨oL1b, oL6b, -⟩ := hw.2.2.1.2.1 j5 (by omega)
      refine v_if_ne (tgt := 26) C dX4_test_13 (by decide) (fun c6 => ?_) (fun c6 => absurd c6 (by decide))
      refine v_aload_n C 0 rfl dX4_test_26 rfl ?_
      refine v_get (v := .ref (qA g 14 2)) C F_X4_24 hO.1 rfl dX4_test_27 ?_
      refine v_callV (rest := []) C (c_Jx4a65c_size_8abf5 l hl G (qA g 14 2) (qA g 15 2) ((List.range (rN s)).map (qA g 6)) h hL2.1) K_X4_60 hmo2 rfl rfl (Nat.le_of_ble_eq_true rfl) ⟨Nat.le_of_ble_eq_true rfl, Nat.le_of_ble_eq_true rfl⟩ ⟨Nat.le_of_ble_eq_true rfl, Nat.le_of_ble_eq_true rfl⟩ dX4_test_30 (fun i7 h7 q7 => ?_)
      obtain ⟨e7, rfl⟩ := q7; subst e7
      refine v_eqi (congrArg nI mr_len) ?_
      refine v_bipush (v := 6) C dX4_test_33 (by decide) ?_
      refine v_icmp_lt (tgt := 49) C dX4_test_35 (by decide) (fun c8 => ?_) (fun c8 => ?_)
      · have c8 := (nk_lt (a := (rN s)) 6 (by decide) (by omega) (by decide)).mp c8
        have z9 : ¬ rN s = 6 := by omega
        refine v_aload_n C 0 rfl dX4_test_49 rfl ?_
        refine v_get (v := .ref (qA g 14 2)) C F_X4_24 hO.1 rfl dX4_test_50 ?_
        refine v_new C N_X4_280 (Nat.le_of_ble_eq_true rfl) (Nat.le_of_ble_eq_true rfl) dX4_test_53 (fun q10 gq10 nq10 => v_nw (fun h10 eh10 => ?_))
        have k11 : h10 x = some (.inr (7, [.ref (qA g 1 0), .ref (qA g 14 0), .ref (qA g 14 1), .ref (qA g 14 2), .ref (qA g 14 3)])) := by rw [eh10, zup_ne _ _ (zne_new nq10 hO.1)]; exact hO.1
        have k12 : h10 (qA g 1 0) = some (.inl (gc G 7, 6, .inr (.inr (.inr (.inr fo))))) := by rw [eh10, zup_ne _ _ (zne_new nq10 to)]; exact to
        have k13 : h10 (qA g 14 0) = some (.inr (2, [.int mo0, .ref (qA g 15 0), .int (nI (qS g).length)])) := by rw [eh10, zup_ne _ _ (zne_new nq10 hmo0)]; exact hmo0
        have k14 : h10 (qA g 14 1) = some (.inr (2, [.int mo1, .ref (qA g 15 1), .int (nI ((List.range (oN s)).map (qA g 3)).length)])) := by rw [eh10, zup_ne _ _ (zne_new nq10 hmo1)]; exact hmo1
        have k15 : h10 (qA g 14 2) = some (.inr (2, [.int mo2, .ref (qA g 15 2), .int (nI ((List.range (rN s)).map (qA g 6)).length)])) := by rw [eh10, zup_ne _ _ (zne_new nq10 hmo2)]; exact hmo2
        have k16 : h10 (qA g 14 3) = some (.inr (2, [.int mo3, .ref (qA g 15 3), .int (nI ((List.range (bN s)).map (qA g 10)).length)])) := by rw [eh10, zup_ne _ _ (zne_new nq10 hmo3)]; exact hmo3
        have k17 : h10 (qA g 3 j2) = some (.inr (6, [.int (nI (oL s j2)), .ref (qA g 4 j2), .int (nI (cnt (fun z => (oD s j2 z).isSome) 20)), .ref (qA g 5 j2)])) := by rw [eh10, zup_ne _ _ (zne_new nq10 t3a)]; exact t3a
        have k18 : h10 (qA g 4 j2) = some (.inl (gc G 6, 20, .inr (.inr (.inr (.inr fda))))) := by rw [eh10, zup_ne _ _ (zne_new nq10 t4a)]; exact t4a
        have k19 : h10 (qA g 5 j2) = some (.inl (gc G 1, 20, .inr (.inl va))) := by rw [eh10, zup_ne _ _ (zne_new nq10 t5a)]; exact t5a
        have k20 : h10 (qA g 3 j5) = some (.inr (6, [.int (nI (oL s j5)), .ref (qA g 4 j5), .int (nI (cnt (fun z => (oD s j5 z).isSome) 20)), .ref (qA g 5 j5)])) := by rw [eh10, zup_ne _ _ (zne_new nq10 t3b)]; exact t3b
        have k21 : h10 (qA g 4 j5) = some (.inl (gc G 6, 20, .inr (.inr (.inr (.inr fdb))))) := by rw [eh10, zup_ne _ _ (zne_new nq10 t4b)]; exact t4b
        have k22 : h10 (qA g 5 j5) = some (.inl (gc G 1, 20, .inr (.inl vb))) := by rw [eh10, zup_ne _ _ (zne_new nq10 t5b)]; exact t5b
        have k23 : h10 q10 = some (.inr (5, [.null, .null, .null, .int 0, .int 0, .int 0, .null, .int 0, .null])) := by rw [eh10]; exact zup_self _ _ _
        have nz_q10 : h q10 = none := knone (zk_rf (fun _ => False) h) nq10
        have hL1n := al_kp hL1.1 (zk_new (zk_rf (fun _ => False) h) eh10 nq10)
        refine v_dup C dX4_test_56 rfl ?_
        refine v_aload_n C 0 rfl dX4_test_57 rfl ?_
        refine v_get (v := .ref (qA g 14 1)) C F_X4_21 k11 rfl dX4_test_58 ?_
        refine v_iload_n C 1 rfl dX4_test_61 rfl ?_
        refine v_callV (rest := [.ref q10, .ref q10, .ref (qA g 14 2)]) C (c_Jx4a65c_get_915e3 l hl G (qA g 14 1) (qA g 15 1) ((List.range (oN s)).map (qA g 3)) j2 h10 hL1n (by rw [mr_len]; omega)) K_X4_99 k14 rfl rfl (Nat.le_of_ble_eq_true rfl) ⟨Nat.le_of_ble_eq_true rfl, Nat.le_of_ble_eq_true rfl⟩ ⟨Nat.le_of_ble_eq_true rfl, Nat.le_of_ble_eq_true rfl⟩ dX4_test_62 (fun i24 h24 q24 => ?_)
        obtain ⟨e24, rfl⟩ := q24; rw [mr_get (show j2 < (oN s) by omega)] at e24; subst e24
        refine v_chk C CA_X4_103 k17 dX4_test_65 ?_
        refine v_aload_n C 0 rfl dX4_test_68 rfl ?_
        refine v_get (v := .ref (qA g 14 1)) C F_X4_21 k11 rfl dX4_test_69 ?_
        refine v_iload_n C 2 rfl dX4_test_72 rfl ?_
        refine v_callV (rest := [.ref (qA g 3 j2), .ref q10, .ref q10, .ref (qA g 14 2)]) C (c_Jx4a65c_get_915e3 l hl G (qA g 14 1) (qA g 15 1) ((List.range (oN s)).map (qA g 3)) j5 h10 hL1n (by rw [mr_len]; omega)) K_X4_99 k14 rfl rfl (Nat.le_of_ble_eq_true rfl) ⟨Nat.le_of_ble_eq_true rfl, Nat.le_of_ble_eq_true rfl⟩ ⟨Nat.le_of_ble_eq_true rfl, Nat.le_of_ble_eq_true rfl⟩ dX4_test_73 (fun i25 h25 q25 => ?_)
        obtain ⟨e25, rfl⟩ := q25; rw [mr_get (show j5 < (oN s) by omega)] at e25; subst e25
        refine v_chk C CA_X4_103 k20 dX4_test_76 ?_
        refine v_callI (rest := [.ref q10, .ref (qA g 14 2)]) C (c_X2_init l hl G q10 (qA g 3 j2) (qA g 3 j5) h10 k23) I_X4_282 rfl rfl (Nat.le_of_ble_eq_true rfl) ⟨Nat.le_of_ble_eq_true rfl, Nat.le_of_ble_eq_true rfl⟩ ⟨Nat.le_of_ble_eq_true rfl, Nat.le_of_ble_eq_true rfl⟩ dX4_test_79 (fun h26 w26 => ?_)
        obtain ⟨rl, rc, rv, ff, hcx, hlx, hfx, hrcx, hrvx, nlx, ncx, nvx, ⟨dx1, dx2, dx3⟩, kpx⟩ := w26
        have nz_rl : h rl = none := knone (zk_new (zk_rf (fun _ => False) h) eh10 nq10) nlx
        have nz_rc : h rc = none := knone (zk_new (zk_rf (fun _ => False) h) eh10 nq10) ncx
        have nz_rv : h rv = none := knone (zk_new (zk_rf (fun _ => False) h) eh10 nq10) nvx
        have k27 : h26 x = some (.inr (7, [.ref (qA g 1 0), .ref (qA g 14 0), .ref (qA g 14 1), .ref (qA g 14 2), .ref (qA g 14 3)])) := kpx _ _ (fun z => (zne_new nq10 hO.1) z) k11
        have k28 : h26 (qA g 1 0) = some (.inl (gc G 7, 6, .inr (.inr (.inr (.inr fo))))) := kpx _ _ (fun z => (zne_new nq10 to) z) k12
        have k29 : h26 (qA g 14 0) = some (.inr (2, [.int mo0, .ref (qA g 15 0), .int (nI (qS g).length)])) := kpx _ _ (fun z => (zne_new nq10 hmo0) z) k13
        have k30 : h26 (qA g 14 1) = some (.inr (2, [.int mo1, .ref (qA g 15 1), .int (nI ((List.range (oN s)).map (qA g 3)).length)])) := kpx _ _ (fun z => (zne_new nq10 hmo1) z) k14
        have k31 : h26 (qA g 14 2) = some (.inr (2, [.int mo2, .ref (qA g 15 2), .int (nI ((List.range (rN s)).map (qA g 6)).length)])) := kpx _ _ (fun z => (zne_new nq10 hmo2) z) k15
        have k32 : h26 (qA g 14 3) = some (.inr (2, [.int mo3, .ref (qA g 15 3), .int (nI ((List.range (bN s)).map (qA g 10)).length)])) := kpx _ _ (fun z => (zne_new nq10 hmo3) z) k16
        have k33 : h26 (qA g 3 j2) = some (.inr (6, [.int (nI (oL s j2)), .ref (qA g 4 j2), .int (nI (cnt (fun z => (oD s j2 z).isSome) 20)), .ref (qA g 5 j2)])) := kpx _ _ (fun z => (zne_new nq10 t3a) z) k17
        have k34 : h26 (qA g 4 j2) = some (.inl (gc G 6, 20, .inr (.inr (.inr (.inr fda))))) := kpx _ _ (fun z => (zne_new nq10 t4a) z) k18
        have k35 : h26 (qA g 5 j2) = some (.inl (gc G 1, 20, .inr (.inl va))) := kpx _ _ (fun z => (zne_new nq10 t5a) z) k19
        have k36 : h26 (qA g 3 j5) = some (.inr (6, [.int (nI (oL s j5)), .ref (qA g 4 j5), .int (nI (cnt (fun z => (oD s j5 z).isSome) 20)), .ref (qA g 5 j5)])) := kpx _ _ (fun z => (zne_new nq10 t3b) z) k20
        have k37 : h26 (qA g 4 j5) = some (.inl (gc G 6, 20, .inr (.inr (.inr (.inr fdb))))) := kpx _ _ (fun z => (zne_new nq10 t4b) z) k21
        have k38 : h26 (qA g 5 j5) = some (.inl (gc G 1, 20, .inr (.inl vb))) := kpx _ _ (fun z => (zne_new nq10 t5b) z) k22
        refine v_ge C (fun hgW => ?_)
        have kpa := (zk_call (zk_new (zk_rf (fun _ => False) h) eh10 nq10) kpx (fun b e hb _ z => by rw [z, nz_q10] at hb; cases hb))
        have alW := al_kp hL2.1 kpa
        refine v_callV (rest := []) C (c_Jx4a65c_add_9ea2d l hl G (qA g 14 2) (qA g 15 2) ((List.range (rN s)).map (qA g 6)) q10 5 _ h26 alW (by rw [mr_len]; omega) hcx (by decide) zob_5) K_X4_155 k31 rfl rfl (Nat.le_of_ble_eq_true rfl) ⟨Nat.le_of_ble_eq_true rfl, Nat.le_of_ble_eq_true rfl⟩ ⟨Nat.le_of_ble_eq_true rfl, Nat.le_of_ble_eq_true rfl⟩ dX4_test_82 (fun i39 h39 w39 => ?_)
        obtain ⟨ei39, ar39, al39, zs39⟩ := w39; subst ei39
        refine v_ge C (fun hg2 => ?_)
        have hcq := stn hL2.1 hgW zs39 nz_q10 hcx
        have qhlx := stn hL2.1 hgW zs39 nz_rl hlx
        have qhrcx := stn hL2.1 hgW zs39 nz_rc hrcx
        have qhrvx := stn hL2.1 hgW zs39 nz_rv hrvx
        have hox := zs39.1 x _ (fun z => z.elim (x_ar hO hL2 hg).1 (x_ar hO hL2 hg).2) k27
        obtain ⟨mo39, hm39⟩ := al39.2.1
        refine v_pop C dX4_test_85 rfl ?_
        refine v_aload_n C 0 rfl dX4_test_86 rfl ?_
        refine v_get (v := .ref (qA g 14 2)) C F_X4_24 hox rfl dX4_test_87 ?_
        refine v_callV (rest := []) C (c_Jx4a65c_size_8abf5 l hl G (qA g 14 2) ar39 (((List.range (rN s)).map (qA g 6)) ++ [q10]) h39 al39) K_X4_60 hm39 rfl rfl (Nat.le_of_ble_eq_true rfl) ⟨Nat.le_of_ble_eq_true rfl, Nat.le_of_ble_eq_true rfl⟩ ⟨Nat.le_of_ble_eq_true rfl, Nat.le_of_ble_eq_true rfl⟩ dX4_test_90 (fun i40 h40 q40 => ?_)
        obtain ⟨e40, rfl⟩ := q40; subst e40
        refine v_eqi (congrArg nI (show (((List.range (rN s)).map (qA g 6)) ++ [q10]).length = (rN s) + 1 by rw [List.length_append, mr_len]; rfl)) ?_
        refine v_iconst (v := 1) C dX4_test_93 (by decide) ?_
        refine v_isub C dX4_test_94 (v_eqi (nI_sbk (a := ((rN s) + 1)) 1 (by decide) (by omega)) ?_)
        have ek : (kTest s (nI j2) (nI j5)) = 0 := by simp [kTest, inN, wth, c1, c4, z9]
        exact v_iret C hQ hr rfl (Nat.le_of_ble_eq_true rfl) (Nat.le_of_ble_eq_true rfl) dX4_test_95 ⟨ek, rfl, (by unfold nTest; rw [eCa, eCb]; exact XI.test hi hw hg hg2 (zSt.pre kpa zs39) al39 (by omega) (by omega) nz_q10 nz_rl nz_rc nz_rv dx1 dx2 dx3 hcq qhlx hfx qhrcx qhrvx)⟩
      · have c8 := (nk_lt_f (a := (rN s)) 6 (by decide) (by omega) (by decide)).mp c8
        have z42 : rN s = 6 := by omega
        have ek : (kTest s (nI j2) (nI j5)) = 2 := by simp [kTest, inN, wth, c1, c4, z42]
        exact v_throwSW C (TH_64 (i := 278) (tx := "too many tests") (by decide)) hto dX4_test_38 dX4_test_41 dX4_test_42 dX4_test_45 dX4_test_48 (Nat.le_of_ble_eq_true rfl) (Nat.le_of_ble_eq_true rfl) ⟨Nat.le_of_ble_eq_true rfl, Nat.le_of_ble_eq_true rfl⟩ ⟨Nat.le_of_ble_eq_true rfl, Nat.le_of_ble_eq_true rfl⟩ ⟨rfl, Or.inr (⟨ek, rfl⟩)⟩
    · rw [zb_f c4] at e4; subst e4
      refine v_if_ne (tgt := 26) C dX4_test_13 (by decide) (fun c44 => absurd c44 (by decide)) (fun c44 => ?_)
      have ek : (kTest s (nI j2) b) = 1 := by simp [kTest, inN, wth, c1, c4]
      exact v_throwS C (TH_37 (i := 97) (tx := "no such term") (by decide)) hto dX4_test_16 dX4_test_19 dX4_test_20 dX4_test_22 dX4_test_25 (Nat.le_of_ble_eq_true rfl) (Nat.le_of_ble_eq_true rfl) ⟨Nat.le_of_ble_eq_true rfl, Nat.le_of_ble_eq_true rfl⟩ ⟨Nat.le_of_ble_eq_true rfl, Nat.le_of_ble_eq_true rfl⟩ ⟨rfl, Or.inl ⟨ek, rfl⟩⟩
  · rw [zb_f c1] at e1; subst e1
    refine v_if_eq (tgt := 16) C dX4_test_5 (by decide) (fun c46 => ?_) (fun c46 => absurd c46 (by decide))
    have ek : (kTest s a b) = 1 := by simp [kTest, inN, wth, c1]
    exact v_throwS C (TH_37 (i := 97) (tx := "no such term") (by decide)) hto dX4_test_16 dX4_test_19 dX4_test_20 dX4_test_22 dX4_test_25 (Nat.le_of_ble_eq_true rfl) (Nat.le_of_ble_eq_true rfl) ⟨Nat.le_of_ble_eq_true rfl, Nat.le_of_ble_eq_true rfl⟩ ⟨Nat.le_of_ble_eq_true rfl, Nat.le_of_ble_eq_true rfl⟩ ⟨rfl, Or.inl ⟨ek, rfl⟩⟩
set_option maxHeartbeats 4000000 in
set_option maxRecDepth 100000 in
theorem c_X4_basket (l : Launch) (hl : l.stackTraces = false) (G : zG) (x : Nat) (g : XGh) (s : ZS) (f t p : Int32) (h : zH) (hi : XI G h g x s) (hw : WFs s)  : zMetX eI l yX4_basket cX4_basket 4 (some .int) 16 10 8000 G [.ref x, .int f, .int t, .int p] h (fun res h2 => (kBasket s f t p) = 0 ∧ res = nI (bN s) ∧ XQ G h h2 g x (nBasket s f t p)) (fun E h2 => h2 = h ∧ (((kBasket s f t p) = 1 ∧ E = "java/lang/IllegalArgumentException") ∨ ((kBasket s f t p) = 2 ∧ E = "java/lang/IndexOutOfBoundsException") ∨ ((kBasket s f t p) = 3 ∧ E = "java/lang/IllegalStateException"))) := by
  refine con_ofX hl RX4 rfl (by decide +kernel) [(0, .ref x), (1, .int f), (2, .int t), (3, .int p)] rfl (Nat.le_of_ble_eq_true rfl) ?_
  intro zp ze zs zm zargs zbelow zmeth zc C hr hin hto hQ
  obtain ⟨⟨hO, hA, ⟨hL0, hL1, hL2, hL3⟩, hS, hN, hT, hR, hB⟩, hV⟩ := id hi
  obtain ⟨mo0, hmo0⟩ := hL0.1.2.1
  obtain ⟨mo1, hmo1⟩ := hL1.1.2.1
  obtain ⟨mo2, hmo2⟩ := hL2.1.2.1
  obtain ⟨mo3, hmo3⟩ := hL3.1.2.1
  obtain ⟨fo, to, qo⟩ := hO.2.2.2
  have eS : (oS s).length = (qS g).length := by rw [hS.2, List.length_map]
  have hw2 : (oS s).length ≤ 8 := hw.1
  have hw7 : oN s ≤ 10 := hw.2.2.1.1
  have hw17 : rN s ≤ 6 := hw.2.2.2.2.1.1
  have hw25 : bN s ≤ 6 := hw.2.2.2.2.2.1
  refine v_ge C (fun hg => ?_)
  refine v_iload_n C 1 rfl dX4_basket_0 rfl ?_
  refine v_iconst (v := 0) C dX4_basket_1 (by decide) ?_
  refine v_ldc C KO_X4_45 dX4_basket_2 ?_
  refine v_callS (rest := []) C (c_X4_isWithin l hl G f 0 1000000 h) S_X4_46 rfl rfl (Nat.le_of_ble_eq_true rfl) ⟨Nat.le_of_ble_eq_true rfl, Nat.le_of_ble_eq_true rfl⟩ ⟨Nat.le_of_ble_eq_true rfl, Nat.le_of_ble_eq_true rfl⟩ dX4_basket_4 (fun i1 h1 q1 => ?_)
  obtain ⟨e1, rfl⟩ := q1
  by_cases c1 : wth f 0 1000000
  · rw [zb_t c1] at e1; subst e1
    refine v_if_eq (tgt := 20) C dX4_basket_7 (by decide) (fun c2 => absurd c2 (by decide)) (fun c2 => ?_)
    refine v_iload_n C 3 rfl dX4_basket_10 rfl ?_
    refine v_iconst (v := 0) C dX4_basket_11 (by decide) ?_
    refine v_bipush (v := 100) C dX4_basket_12 (by decide) ?_
    refine v_callS (rest := []) C (c_X4_isWithin l hl G p 0 100 h) S_X4_46 rfl rfl (Nat.le_of_ble_eq_true rfl) ⟨Nat.le_of_ble_eq_true rfl, Nat.le_of_ble_eq_true rfl⟩ ⟨Nat.le_of_ble_eq_true rfl, Nat.le_of_ble_eq_true rfl⟩ dX4_basket_14 (fun i3 h3 q3 => ?_)
    obtain ⟨e3, rfl⟩ := q3
    by_cases c3 : wth p 0 100
    · rw [zb_t c3] at e3; subst e3
      refine v_if_ne (tgt := 31) C dX4_basket_17 (by decide) (fun c4 => ?_) (fun c4 => absurd c4 (by decide))
      refine v_aload_n C 0 rfl dX4_basket_31 rfl ?_
      refine v_iload_n C 2 rfl dX4_basket_32 rfl ?_
      refine v_callV (rest := []) C (c_X4_isTerm l hl G x (qA g 1 0) (qA g 14 0) (qA g 14 1) (qA g 14 2) (qA g 14 3) (qA g 15 1) ((List.range (oN s)).map (qA g 3)) t h hO.1 hL1.1) K_X4_94 hO.1 rfl rfl (Nat.le_of_ble_eq_true rfl) ⟨Nat.le_of_ble_eq_true rfl, Nat.le_of_ble_eq_true rfl⟩ ⟨Nat.le_of_ble_eq_true rfl, Nat.le_of_ble_eq_true rfl⟩ dX4_basket_33 (fun i5 h5 q5 => ?_)
      obtain ⟨e5, rfl⟩ := q5; rw [mr_len] at e5
      by_cases c5 : inN t (oN s)
      · rw [zb_t c5] at e5; subst e5
        obtain ⟨j6, hj6, en6⟩ := inN.nat c5 (by omega)
        subst en6
        have eCt : cl (nI j6) = j6 := cl_nI (by omega)
        obtain ⟨r3t, r4t, r5t, t3t, ⟨fdt, t4t, hdft⟩, -⟩ := hT j6 (by omega)
        obtain ⟨vt, t5t, qvt⟩ := hV j6 (by omega)
        obtain ⟨oL1t, oL6t, -⟩ := hw.2.2.1.2.1 j6 (by omega)
        refine v_if_ne (tgt := 49) C dX4_basket_36 (by decide) (fun c7 => ?_) (fun c7 => absurd c7 (by decide))
        refine v_aload_n C 0 rfl dX4_basket_49 rfl ?_
        refine v_get (v := .ref (qA g 14 3)) C F_X4_27 hO.1 rfl dX4_basket_50 ?_
        refine v_callV (rest := []) C (c_Jx4a65c_size_8abf5 l hl G (qA g 14 3) (qA g 15 3) ((List.range (bN s)).map (qA g 10)) h hL3.1) K_X4_60 hmo3 rfl rfl (Nat.le_of_ble_eq_true rfl) ⟨Nat.le_of_ble_eq_true rfl, Nat.le_of_ble_eq_true rfl⟩ ⟨Nat.le_of_ble_eq_true rfl, Nat.le_of_ble_eq_true rfl⟩ dX4_basket_53 (fun i8 h8 q8 => ?_)
        obtain ⟨e8, rfl⟩ := q8; subst e8
        refine v_eqi (congrArg nI mr_len) ?_
        refine v_bipush (v := 6) C dX4_basket_56 (by decide) ?_
        refine v_icmp_lt (tgt := 72) C dX4_basket_58 (by decide) (fun c9 => ?_) (fun c9 => ?_)
        · have c9 := (nk_lt (a := (bN s)) 6 (by decide) (by omega) (by decide)).mp c9
          have z10 : ¬ bN s = 6 := by omega
          refine v_aload_n C 0 rfl dX4_basket_72 rfl ?_
          refine v_get (v := .ref (qA g 14 3)) C F_X4_27 hO.1 rfl dX4_basket_73 ?_
          refine v_new C N_X4_359 (Nat.le_of_ble_eq_true rfl) (Nat.le_of_ble_eq_true rfl) dX4_basket_76 (fun q11 gq11 nq11 => v_nw (fun h11 eh11 => ?_))
          have k12 : h11 x = some (.inr (7, [.ref (qA g 1 0), .ref (qA g 14 0), .ref (qA g 14 1), .ref (qA g 14 2), .ref (qA g 14 3)])) := by rw [eh11, zup_ne _ _ (zne_new nq11 hO.1)]; exact hO.1
          have k13 : h11 (qA g 1 0) = some (.inl (gc G 7, 6, .inr (.inr (.inr (.inr fo))))) := by rw [eh11, zup_ne _ _ (zne_new nq11 to)]; exact to
          have k14 : h11 (qA g 14 0) = some (.inr (2, [.int mo0, .ref (qA g 15 0), .int (nI (qS g).length)])) := by rw [eh11, zup_ne _ _ (zne_new nq11 hmo0)]; exact hmo0
          have k15 : h11 (qA g 14 1) = some (.inr (2, [.int mo1, .ref (qA g 15 1), .int (nI ((List.range (oN s)).map (qA g 3)).length)])) := by rw [eh11, zup_ne _ _ (zne_new nq11 hmo1)]; exact hmo1
          have k16 : h11 (qA g 14 2) = some (.inr (2, [.int mo2, .ref (qA g 15 2), .int (nI ((List.range (rN s)).map (qA g 6)).length)])) := by rw [eh11, zup_ne _ _ (zne_new nq11 hmo2)]; exact hmo2
          have k17 : h11 (qA g 14 3) = some (.inr (2, [.int mo3, .ref (qA g 15 3), .int (nI ((List.range (bN s)).map (qA g 10)).length)])) := by rw [eh11, zup_ne _ _ (zne_new nq11 hmo3)]; exact hmo3
          have k18 : h11 (qA g 3 j6) = some (.inr (6, [.int (nI (oL s j6)), .ref (qA g 4 j6), .int (nI (cnt (fun z => (oD s j6 z).isSome) 20)), .ref (qA g 5 j6)])) := by rw [eh11, zup_ne _ _ (zne_new nq11 t3t)]; exact t3t
          have k19 : h11 (qA g 4 j6) = some (.inl (gc G 6, 20, .inr (.inr (.inr (.inr fdt))))) := by rw [eh11, zup_ne _ _ (zne_new nq11 t4t)]; exact t4t
          have k20 : h11 (qA g 5 j6) = some (.inl (gc G 1, 20, .inr (.inl vt))) := by rw [eh11, zup_ne _ _ (zne_new nq11 t5t)]; exact t5t
          have k21 : h11 q11 = some (.inr (3, [.int 0, .null, .int 0, .long 0])) := by rw [eh11]; exact zup_self _ _ _
          have nz_q11 : h q11 = none := knone (zk_rf (fun _ => False) h) nq11
          have hL1n := al_kp hL1.1 (zk_new (zk_rf (fun _ => False) h) eh11 nq11)
          refine v_dup C dX4_basket_79 rfl ?_
          refine v_iload_n C 1 rfl dX4_basket_80 rfl ?_
          refine v_aload_n C 0 rfl dX4_basket_81 rfl ?_
          refine v_get (v := .ref (qA g 14 1)) C F_X4_21 k12 rfl dX4_basket_82 ?_
          refine v_iload_n C 2 rfl dX4_basket_85 rfl ?_
          refine v_callV (rest := [.int f, .ref q11, .ref q11, .ref (qA g 14 3)]) C (c_Jx4a65c_get_915e3 l hl G (qA g 14 1) (qA g 15 1) ((List.range (oN s)).map (qA g 3)) j6 h11 hL1n (by rw [mr_len]; omega)) K_X4_99 k15 rfl rfl (Nat.le_of_ble_eq_true rfl) ⟨Nat.le_of_ble_eq_true rfl, Nat.le_of_ble_eq_true rfl⟩ ⟨Nat.le_of_ble_eq_true rfl, Nat.le_of_ble_eq_true rfl⟩ dX4_basket_86 (fun i22 h22 q22 => ?_)
          obtain ⟨e22, rfl⟩ := q22; rw [mr_get (show j6 < (oN s) by omega)] at e22; subst e22
          refine v_chk C CA_X4_103 k18 dX4_basket_89 ?_
          refine v_iload_n C 3 rfl dX4_basket_92 rfl ?_
          refine v_callI (rest := [.ref q11, .ref (qA g 14 3)]) C (c_X0_init l hl G q11 (qA g 3 j6) f p h11 k21) I_X4_361 rfl rfl (Nat.le_of_ble_eq_true rfl) ⟨Nat.le_of_ble_eq_true rfl, Nat.le_of_ble_eq_true rfl⟩ ⟨Nat.le_of_ble_eq_true rfl, Nat.le_of_ble_eq_true rfl⟩ dX4_basket_93 (fun h23 w23 => ?_)
          obtain ⟨hcx, kpx⟩ := w23
          have k24 : h23 x = some (.inr (7, [.ref (qA g 1 0), .ref (qA g 14 0), .ref (qA g 14 1), .ref (qA g 14 2), .ref (qA g 14 3)])) := kpx _ _ (fun z => (zne_new nq11 hO.1) z) k12
          have k25 : h23 (qA g 1 0) = some (.inl (gc G 7, 6, .inr (.inr (.inr (.inr fo))))) := kpx _ _ (fun z => (zne_new nq11 to) z) k13
          have k26 : h23 (qA g 14 0) = some (.inr (2, [.int mo0, .ref (qA g 15 0), .int (nI (qS g).length)])) := kpx _ _ (fun z => (zne_new nq11 hmo0) z) k14
          have k27 : h23 (qA g 14 1) = some (.inr (2, [.int mo1, .ref (qA g 15 1), .int (nI ((List.range (oN s)).map (qA g 3)).length)])) := kpx _ _ (fun z => (zne_new nq11 hmo1) z) k15
          have k28 : h23 (qA g 14 2) = some (.inr (2, [.int mo2, .ref (qA g 15 2), .int (nI ((List.range (rN s)).map (qA g 6)).length)])) := kpx _ _ (fun z => (zne_new nq11 hmo2) z) k16
          have k29 : h23 (qA g 14 3) = some (.inr (2, [.int mo3, .ref (qA g 15 3), .int (nI ((List.range (bN s)).map (qA g 10)).length)])) := kpx _ _ (fun z => (zne_new nq11 hmo3) z) k17
          have k30 : h23 (qA g 3 j6) = some (.inr (6, [.int (nI (oL s j6)), .ref (qA g 4 j6), .int (nI (cnt (fun z => (oD s j6 z).isSome) 20)), .ref (qA g 5 j6)])) := kpx _ _ (fun z => (zne_new nq11 t3t) z) k18
          have k31 : h23 (qA g 4 j6) = some (.inl (gc G 6, 20, .inr (.inr (.inr (.inr fdt))))) := kpx _ _ (fun z => (zne_new nq11 t4t) z) k19
          have k32 : h23 (qA g 5 j6) = some (.inl (gc G 1, 20, .inr (.inl vt))) := kpx _ _ (fun z => (zne_new nq11 t5t) z) k20
          refine v_ge C (fun hgW => ?_)
          have kpa := (zk_call (zk_new (zk_rf (fun _ => False) h) eh11 nq11) kpx (fun b e hb _ z => by rw [z, nz_q11] at hb; cases hb))
          have alW := al_kp hL3.1 kpa
          refine v_callV (rest := []) C (c_Jx4a65c_add_9ea2d l hl G (qA g 14 3) (qA g 15 3) ((List.range (bN s)).map (qA g 10)) q11 3 _ h23 alW (by rw [mr_len]; omega) hcx (by decide) zob_3) K_X4_155 k29 rfl rfl (Nat.le_of_ble_eq_true rfl) ⟨Nat.le_of_ble_eq_true rfl, Nat.le_of_ble_eq_true rfl⟩ ⟨Nat.le_of_ble_eq_true rfl, Nat.le_of_ble_eq_true rfl⟩ dX4_basket_96 (fun i33 h33 w33 => ?_)
          obtain ⟨ei33, ar33, al33, zs33⟩ := w33; subst ei33
          refine v_ge C (fun hg2 => ?_)
          have hcq := stn hL3.1 hgW zs33 nz_q11 hcx
          have hox := zs33.1 x _ (fun z => z.elim (x_ar hO hL3 hg).1 (x_ar hO hL3 hg).2) k24
          obtain ⟨mo33, hm33⟩ := al33.2.1
          refine v_pop C dX4_basket_99 rfl ?_
          refine v_aload_n C 0 rfl dX4_basket_100 rfl ?_
          refine v_get (v := .ref (qA g 14 3)) C F_X4_27 hox rfl dX4_basket_101 ?_
          refine v_callV (rest := []) C (c_Jx4a65c_size_8abf5 l hl G (qA g 14 3) ar33 (((List.range (bN s)).map (qA g 10)) ++ [q11]) h33 al33) K_X4_60 hm33 rfl rfl (Nat.le_of_ble_eq_true rfl) ⟨Nat.le_of_ble_eq_true rfl, Nat.le_of_ble_eq_true rfl⟩ ⟨Nat.le_of_ble_eq_true rfl, Nat.le_of_ble_eq_true rfl⟩ dX4_basket_104 (fun i34 h34 q34 => ?_)
          obtain ⟨e34, rfl⟩ := q34; subst e34
          refine v_eqi (congrArg nI (show (((List.range (bN s)).map (qA g 10)) ++ [q11]).length = (bN s) + 1 by rw [List.length_append, mr_len]; rfl)) ?_
          refine v_iconst (v := 1) C dX4_basket_107 (by decide) ?_
          refine v_isub C dX4_basket_108 (v_eqi (nI_sbk (a := ((bN s) + 1)) 1 (by decide) (by omega)) ?_)
          have ek : (kBasket s f (nI j6) p) = 0 := by simp [kBasket, inN, wth, c1, c3, c5, z10]
          exact v_iret C hQ hr rfl (Nat.le_of_ble_eq_true rfl) (Nat.le_of_ble_eq_true rfl) dX4_basket_109 ⟨ek, rfl, (by unfold nBasket; rw [eCt]; exact XI.basket hi hg hg2 (zSt.pre kpa zs33) al33 nz_q11 hcq)⟩
        · have c9 := (nk_lt_f (a := (bN s)) 6 (by decide) (by omega) (by decide)).mp c9
          have z36 : bN s = 6 := by omega
          have ek : (kBasket s f (nI j6) p) = 3 := by simp [kBasket, inN, wth, c1, c3, c5, z36]
          exact v_throwSW C (TH_64 (i := 357) (tx := "too many baskets") (by decide)) hto dX4_basket_61 dX4_basket_64 dX4_basket_65 dX4_basket_68 dX4_basket_71 (Nat.le_of_ble_eq_true rfl) (Nat.le_of_ble_eq_true rfl) ⟨Nat.le_of_ble_eq_true rfl, Nat.le_of_ble_eq_true rfl⟩ ⟨Nat.le_of_ble_eq_true rfl, Nat.le_of_ble_eq_true rfl⟩ ⟨rfl, Or.inr (Or.inr (⟨ek, rfl⟩))⟩
      · rw [zb_f c5] at e5; subst e5
        refine v_if_ne (tgt := 49) C dX4_basket_36 (by decide) (fun c38 => absurd c38 (by decide)) (fun c38 => ?_)
        have ek : (kBasket s f t p) = 2 := by simp [kBasket, inN, wth, c1, c3, c5]
        exact v_throwS C (TH_37 (i := 97) (tx := "no such term") (by decide)) hto dX4_basket_39 dX4_basket_42 dX4_basket_43 dX4_basket_45 dX4_basket_48 (Nat.le_of_ble_eq_true rfl) (Nat.le_of_ble_eq_true rfl) ⟨Nat.le_of_ble_eq_true rfl, Nat.le_of_ble_eq_true rfl⟩ ⟨Nat.le_of_ble_eq_true rfl, Nat.le_of_ble_eq_true rfl⟩ ⟨rfl, Or.inr (Or.inl ⟨ek, rfl⟩)⟩
    · rw [zb_f c3] at e3; subst e3
      refine v_if_ne (tgt := 31) C dX4_basket_17 (by decide) (fun c40 => absurd c40 (by decide)) (fun c40 => ?_)
      have ek : (kBasket s f t p) = 1 := by simp [kBasket, inN, wth, c1, c3]
      exact v_throwSW C (TH_50 (i := 355) (tx := "the fixed amount or the percents are out of range") (by decide)) hto dX4_basket_20 dX4_basket_23 dX4_basket_24 dX4_basket_27 dX4_basket_30 (Nat.le_of_ble_eq_true rfl) (Nat.le_of_ble_eq_true rfl) ⟨Nat.le_of_ble_eq_true rfl, Nat.le_of_ble_eq_true rfl⟩ ⟨Nat.le_of_ble_eq_true rfl, Nat.le_of_ble_eq_true rfl⟩ ⟨rfl, Or.inl ⟨ek, rfl⟩⟩
  · rw [zb_f c1] at e1; subst e1
    refine v_if_eq (tgt := 20) C dX4_basket_7 (by decide) (fun c42 => ?_) (fun c42 => absurd c42 (by decide))
    have ek : (kBasket s f t p) = 1 := by simp [kBasket, inN, wth, c1]
    exact v_throwSW C (TH_50 (i := 355) (tx := "the fixed amount or the percents are out of range") (by decide)) hto dX4_basket_20 dX4_basket_23 dX4_basket_24 dX4_basket_27 dX4_basket_30 (Nat.le_of_ble_eq_true rfl) (Nat.le_of_ble_eq_true rfl) ⟨Nat.le_of_ble_eq_true rfl, Nat.le_of_ble_eq_true rfl⟩ ⟨Nat.le_of_ble_eq_true rfl, Nat.le_of_ble_eq_true rfl⟩ ⟨rfl, Or.inl ⟨ek, rfl⟩⟩

set_option maxHeartbeats 4000000 in
set_option maxRecDepth 100000 in
theorem c_X4_limit (l : Launch) (hl : l.stackTraces = false) (G : zG) (x : Nat) (g : XGh) (s : ZS) (r q v : Int32) (h : zH) (hi : XI G h g x s) (hw : WFs s)  : zMetX eI l yX4_limit cX4_limit 5 (some .int) 15 10 200 G [.ref x, .int r, .int q, .int v] h (fun res h2 => (kLimit s r q v) = 0 ∧ res = nI (cnt (fun z => decide (¬ rL (nLimit s r q v) (cl r) z = -1)) 20) ∧ XQ G h h2 g x (nLimit s r q v)) (fun E h2 => h2 = h ∧ (((kLimit s r q v) = 1 ∧ E = "java/lang/IndexOutOfBoundsException") ∨ ((kLimit s r q v) = 2 ∧ E = "java/lang/IllegalArgumentException"))) := by
  refine con_ofX hl RX4 rfl (by decide +kernel) [(0, .ref x), (1, .int r), (2, .int q), (3, .int v)] rfl (Nat.le_of_ble_eq_true rfl) ?_
  intro zp ze zs zm zargs zbelow zmeth zc C hr hin hto hQ
  obtain ⟨⟨hO, hA, ⟨hL0, hL1, hL2, hL3⟩, hS, hN, hT, hR, hB⟩, hV⟩ := id hi
  obtain ⟨mo0, hmo0⟩ := hL0.1.2.1
  obtain ⟨mo1, hmo1⟩ := hL1.1.2.1
  obtain ⟨mo2, hmo2⟩ := hL2.1.2.1
  obtain ⟨mo3, hmo3⟩ := hL3.1.2.1
  obtain ⟨fo, to, qo⟩ := hO.2.2.2
  have eS : (oS s).length = (qS g).length := by rw [hS.2, List.length_map]
  have hw2 : (oS s).length ≤ 8 := hw.1
  have hw7 : oN s ≤ 10 := hw.2.2.1.1
  have hw17 : rN s ≤ 6 := hw.2.2.2.2.1.1
  have hw25 : bN s ≤ 6 := hw.2.2.2.2.2.1
  refine v_ge C (fun hg => ?_)
  refine v_aload_n C 0 rfl dX4_limit_0 rfl ?_
  refine v_iload_n C 1 rfl dX4_limit_1 rfl ?_
  refine v_callV (rest := []) C (c_X4_isTest l hl G x (qA g 1 0) (qA g 14 0) (qA g 14 1) (qA g 14 2) (qA g 14 3) (qA g 15 2) ((List.range (rN s)).map (qA g 6)) r h hO.1 hL2.1) K_X4_285 hO.1 rfl rfl (Nat.le_of_ble_eq_true rfl) ⟨Nat.le_of_ble_eq_true rfl, Nat.le_of_ble_eq_true rfl⟩ ⟨Nat.le_of_ble_eq_true rfl, Nat.le_of_ble_eq_true rfl⟩ dX4_limit_2 (fun i1 h1 q1 => ?_)
  obtain ⟨e1, rfl⟩ := q1; rw [mr_len] at e1
  by_cases c1 : inN r (rN s)
  · rw [zb_t c1] at e1; subst e1
    obtain ⟨j2, hj2, en2⟩ := inN.nat c1 (by omega)
    subst en2
    have eCr : cl (nI j2) = j2 := cl_nI (by omega)
    obtain ⟨r6, r7, r8, r9, t6, ⟨f7, t7, q7⟩, ⟨f8, t8, q8⟩, f9, t9, q9⟩ := hR j2 (by omega)
    obtain ⟨hwT, hwB, hwW, hwL⟩ := hw.2.2.2.2.1.2.1 j2 (by omega)
    refine v_if_eq (tgt := 15) C dX4_limit_5 (by decide) (fun c3 => absurd c3 (by decide)) (fun c3 => ?_)
    refine v_iload_n C 2 rfl dX4_limit_8 rfl ?_
    refine v_callS (rest := []) C (c_X4_isQuarter l hl G q h) S_X4_34 rfl rfl (Nat.le_of_ble_eq_true rfl) ⟨Nat.le_of_ble_eq_true rfl, Nat.le_of_ble_eq_true rfl⟩ ⟨Nat.le_of_ble_eq_true rfl, Nat.le_of_ble_eq_true rfl⟩ dX4_limit_9 (fun i4 h4 q4 => ?_)
    obtain ⟨e4, rfl⟩ := q4
    by_cases c4 : inN q 20
    · rw [zb_t c4] at e4; subst e4
      obtain ⟨j5, hj5, en5⟩ := inN.nat c4 (by omega)
      subst en5
      have eCq : cl (nI j5) = j5 := cl_nI (by omega)
      refine v_if_ne (tgt := 26) C dX4_limit_12 (by decide) (fun c6 => ?_) (fun c6 => absurd c6 (by decide))
      refine v_iload_n C 3 rfl dX4_limit_26 rfl ?_
      refine v_iconst (v := 0) C dX4_limit_27 (by decide) ?_
      refine v_sipush (v := 10000) C dX4_limit_28 (by decide) ?_
      refine v_callS (rest := []) C (c_X4_isWithin l hl G v 0 10000 h) S_X4_46 rfl rfl (Nat.le_of_ble_eq_true rfl) ⟨Nat.le_of_ble_eq_true rfl, Nat.le_of_ble_eq_true rfl⟩ ⟨Nat.le_of_ble_eq_true rfl, Nat.le_of_ble_eq_true rfl⟩ dX4_limit_31 (fun i7 h7 q7 => ?_)
      obtain ⟨e7, rfl⟩ := q7
      by_cases c7 : wth v 0 10000
      · rw [zb_t c7] at e7; subst e7
        refine v_if_ne (tgt := 48) C dX4_limit_34 (by decide) (fun c8 => ?_) (fun c8 => absurd c8 (by decide))
        refine v_aload_n C 0 rfl dX4_limit_48 rfl ?_
        refine v_get (v := .ref (qA g 14 2)) C F_X4_24 hO.1 rfl dX4_limit_49 ?_
        refine v_iload_n C 1 rfl dX4_limit_52 rfl ?_
        refine v_callV (rest := []) C (c_Jx4a65c_get_915e3 l hl G (qA g 14 2) (qA g 15 2) ((List.range (rN s)).map (qA g 6)) j2 h hL2.1 (by rw [mr_len]; omega)) K_X4_99 hmo2 rfl rfl (Nat.le_of_ble_eq_true rfl) ⟨Nat.le_of_ble_eq_true rfl, Nat.le_of_ble_eq_true rfl⟩ ⟨Nat.le_of_ble_eq_true rfl, Nat.le_of_ble_eq_true rfl⟩ dX4_limit_53 (fun i9 h9 q9 => ?_)
        obtain ⟨e9, rfl⟩ := q9; rw [mr_get (show j2 < (rN s) by omega)] at e9; subst e9
        refine v_chk C CA_X4_280 t6 dX4_limit_56 ?_
        refine v_astore C [(4, .ref (qA g 6 j2)), (0, .ref x), (1, .int (nI j2)), (2, .int (nI j5)), (3, .int v)] rfl (by decide) dX4_limit_59 ?_
        refine v_aload C 0 rfl dX4_limit_61 ?_
        refine v_get (v := .ref (qA g 7 j2)) C F_X4_292 t6 rfl dX4_limit_63 ?_
        refine v_iload_n C 3 rfl dX4_limit_66 rfl ?_
        refine v_iald C t7 (vpin (show j5 < 20 by omega) (by decide)) dX4_limit_67 (v_eqi (y := (rL s j2 j5)) ((congrArg f7 (nI_clamp (show j5 < 2 ^ 31 by omega))).trans (q7 j5 (by omega))) ?_)
        refine v_iconst (v := (-1)) C dX4_limit_68 (by decide) ?_
        refine v_icmp_ne (tgt := 83) C dX4_limit_69 (by decide) (fun c10 => ?_) (fun c10 => ?_)
        · refine v_aload C 0 rfl dX4_limit_83 ?_
          refine v_get (v := .ref (qA g 7 j2)) C F_X4_292 t6 rfl dX4_limit_85 ?_
          refine v_iload_n C 3 rfl dX4_limit_88 rfl ?_
          refine v_iload_n C 4 rfl dX4_limit_89 rfl ?_
          refine v_iast C t7 (vpin (by omega) (by decide)) dX4_limit_90 (v_nw (fun h11 eh11 => ?_))
          have k12 : h11 x = some (.inr (7, [.ref (qA g 1 0), .ref (qA g 14 0), .ref (qA g 14 1), .ref (qA g 14 2), .ref (qA g 14 3)])) := by rw [eh11, zup_ne _ _ (rne r7 hO.2.1 (by simp))]; exact hO.1
          have k13 : h11 (qA g 1 0) = some (.inl (gc G 7, 6, .inr (.inr (.inr (.inr fo))))) := by rw [eh11, zup_ne _ _ (rne r7 hO.2.2.1 (by simp))]; exact to
          have k14 : h11 (qA g 14 0) = some (.inr (2, [.int mo0, .ref (qA g 15 0), .int (nI (qS g).length)])) := by rw [eh11, zup_ne _ _ (rne r7 hL0.2.1 (by simp))]; exact hmo0
          have k15 : h11 (qA g 14 1) = some (.inr (2, [.int mo1, .ref (qA g 15 1), .int (nI ((List.range (oN s)).map (qA g 3)).length)])) := by rw [eh11, zup_ne _ _ (rne r7 hL1.2.1 (by simp))]; exact hmo1
          have k16 : h11 (qA g 14 2) = some (.inr (2, [.int mo2, .ref (qA g 15 2), .int (nI ((List.range (rN s)).map (qA g 6)).length)])) := by rw [eh11, zup_ne _ _ (rne r7 hL2.2.1 (by simp))]; exact hmo2
          have k17 : h11 (qA g 14 3) = some (.inr (2, [.int mo3, .ref (qA g 15 3), .int (nI ((List.range (bN s)).map (qA g 10)).length)])) := by rw [eh11, zup_ne _ _ (rne r7 hL3.2.1 (by simp))]; exact hmo3
          have k18 : h11 (qA g 6 j2) = some (.inr (5, [.ref (qA g 3 (rT s j2)), .ref (qA g 3 (rB s j2)), .ref (qA g 7 j2), .int (nI (cnt (fun z => decide (¬ rL s j2 z = -1)) 20)), .int (rW s j2), .int (rE s j2), .ref (qA g 8 j2), .int (nI (cnt (fun z => decide (¬ rC s j2 z = 0)) 20)), .ref (qA g 9 j2)])) := by rw [eh11, zup_ne _ _ (rne r7 r6 (by simp))]; exact t6
          have k19 : h11 (qA g 8 j2) = some (.inl (gc G 0, 20, .inl f8)) := by rw [eh11, zup_ne _ _ (rne r7 r8 (by simp))]; exact t8
          have k20 : h11 (qA g 9 j2) = some (.inl (gc G 4, 20, .inl f9)) := by rw [eh11, zup_ne _ _ (rne r7 r9 (by simp))]; exact t9
          have k21 : h11 (qA g 7 j2) = some (.inl (gc G 0, 20, .inl (upd f7 (nI j5).toNatClampNeg v))) := by rw [eh11]; exact zup_self _ _ _
          refine v_aload C 0 rfl dX4_limit_91 ?_
          refine v_get (v := .int (nI (cnt (fun z => decide (¬ rL s j2 z = -1)) 20))) C F_X4_296 k18 rfl dX4_limit_93 ?_
          have ek : (kLimit s (nI j2) (nI j5) v) = 0 := by simp [kLimit, inN, wth, c1, c4, c7]
          have hv1 : ¬ v = -1 := fun z => by rw [z] at c7; exact absurd (wth_iff.mp c7).1 (by decide)
          have hcnt := cnt_put (p := fun z => decide (¬ rL s j2 z = -1)) (p2 := fun z => decide (¬ up3 (rL s) j2 j5 v j2 z = -1)) (q := j5) (n := 20) (by omega) (fun z hz => by show decide _ = decide _; rw [up3_n (fun y => hz y.2)]) (decide_eq_true (by rw [up3_s]; exact hv1))
          rw [if_pos (decide_eq_true c10), Nat.add_zero] at hcnt
          exact v_iret C hQ hr rfl (Nat.le_of_ble_eq_true rfl) (Nat.le_of_ble_eq_true rfl) dX4_limit_96 ⟨ek, (by show _ = nI (cnt (fun z => decide (¬ up3 (rL s) (cl (nI j2)) (cl (nI j5)) v (cl (nI j2)) z = -1)) 20); rw [eCr, eCq, hcnt]), (by unfold nLimit; rw [eCr, eCq]; exact XI.ratio (j := j2) hi (rat_kp (zk_put (zk_rf _ _) eh11 (Or.inr (Or.inl rfl))) r6 r7 r8 r9) rfl rfl rfl (fun i hi => funext (fun z => up3_n (fun y => hi y.1))) (fun _ _ => rfl) (fun _ _ => rfl) (fun _ _ => rfl) (fun _ _ => rfl) ⟨r6, r7, r8, r9, (by show _ = some (Sum.inr (5, [_, _, _, .int (nI (cnt (fun z => decide (¬ up3 (rL s) j2 j5 v j2 z = -1)) 20)), _, _, _, _, _]) : va_E); rw [hcnt]; exact k18), ⟨_, k21, (fun z hz => by
                by_cases y : z = j5
                · rw [y, nI_clamp (by omega), pk_us]; exact (show up3 (rL s) j2 j5 v j2 j5 = v from up3_s).symm
                · rw [nI_clamp (by omega), pk_un y, q7 z hz]; exact (show up3 (rL s) j2 j5 v j2 z = (rL s) j2 z from up3_n (fun w => y w.2)).symm)⟩, ⟨f8, k19, q8⟩, f9, k20, q9⟩)⟩
        · refine v_aload C 0 rfl dX4_limit_72 ?_
          refine v_dup C dX4_limit_74 rfl ?_
          refine v_get (v := .int (nI (cnt (fun z => decide (¬ rL s j2 z = -1)) 20))) C F_X4_296 t6 rfl dX4_limit_75 ?_
          refine v_iconst (v := 1) C dX4_limit_78 (by decide) ?_
          refine v_iadd C dX4_limit_79 (v_eqi (nI_adk (cnt (fun z => decide (¬ rL s j2 z = -1)) 20) 1 (by decide)) ?_)
          refine v_put C [.ref (qA g 3 (rT s j2)), .ref (qA g 3 (rB s j2)), .ref (qA g 7 j2), .int (nI ((cnt (fun z => decide (¬ rL s j2 z = -1)) 20) + 1)), .int (rW s j2), .int (rE s j2), .ref (qA g 8 j2), .int (nI (cnt (fun z => decide (¬ rC s j2 z = 0)) 20)), .ref (qA g 9 j2)] P_X4_296 t6 rfl rfl rfl (Nat.le_of_ble_eq_true rfl) dX4_limit_80 (v_nw (fun h23 eh23 => ?_))
          have k24 : h23 x = some (.inr (7, [.ref (qA g 1 0), .ref (qA g 14 0), .ref (qA g 14 1), .ref (qA g 14 2), .ref (qA g 14 3)])) := by rw [eh23, zup_ne _ _ (rne r6 hO.2.1 (by simp))]; exact hO.1
          have k25 : h23 (qA g 1 0) = some (.inl (gc G 7, 6, .inr (.inr (.inr (.inr fo))))) := by rw [eh23, zup_ne _ _ (rne r6 hO.2.2.1 (by simp))]; exact to
          have k26 : h23 (qA g 14 0) = some (.inr (2, [.int mo0, .ref (qA g 15 0), .int (nI (qS g).length)])) := by rw [eh23, zup_ne _ _ (rne r6 hL0.2.1 (by simp))]; exact hmo0
          have k27 : h23 (qA g 14 1) = some (.inr (2, [.int mo1, .ref (qA g 15 1), .int (nI ((List.range (oN s)).map (qA g 3)).length)])) := by rw [eh23, zup_ne _ _ (rne r6 hL1.2.1 (by simp))]; exact hmo1
          have k28 : h23 (qA g 14 2) = some (.inr (2, [.int mo2, .ref (qA g 15 2), .int (nI ((List.range (rN s)).map (qA g 6)).length)])) := by rw [eh23, zup_ne _ _ (rne r6 hL2.2.1 (by simp))]; exact hmo2
          have k29 : h23 (qA g 14 3) = some (.inr (2, [.int mo3, .ref (qA g 15 3), .int (nI ((List.range (bN s)).map (qA g 10)).length)])) := by rw [eh23, zup_ne _ _ (rne r6 hL3.2.1 (by simp))]; exact hmo3
          have k30 : h23 (qA g 7 j2) = some (.inl (gc G 0, 20, .inl f7)) := by rw [eh23, zup_ne _ _ (rne r6 r7 (by simp))]; exact t7
          have k31 : h23 (qA g 8 j2) = some (.inl (gc G 0, 20, .inl f8)) := by rw [eh23, zup_ne _ _ (rne r6 r8 (by simp))]; exact t8
          have k32 : h23 (qA g 9 j2) = some (.inl (gc G 4, 20, .inl f9)) := by rw [eh23, zup_ne _ _ (rne r6 r9 (by simp))]; exact t9
          have k33 : h23 (qA g 6 j2) = some (.inr (5, [.ref (qA g 3 (rT s j2)), .ref (qA g 3 (rB s j2)), .ref (qA g 7 j2), .int (nI ((cnt (fun z => decide (¬ rL s j2 z = -1)) 20) + 1)), .int (rW s j2), .int (rE s j2), .ref (qA g 8 j2), .int (nI (cnt (fun z => decide (¬ rC s j2 z = 0)) 20)), .ref (qA g 9 j2)])) := by rw [eh23]; exact zup_self _ _ _
          refine v_aload C 0 rfl dX4_limit_83 ?_
          refine v_get (v := .ref (qA g 7 j2)) C F_X4_292 k33 rfl dX4_limit_85 ?_
          refine v_iload_n C 3 rfl dX4_limit_88 rfl ?_
          refine v_iload_n C 4 rfl dX4_limit_89 rfl ?_
          refine v_iast C k30 (vpin (by omega) (by decide)) dX4_limit_90 (v_nw (fun h34 eh34 => ?_))
          have k35 : h34 x = some (.inr (7, [.ref (qA g 1 0), .ref (qA g 14 0), .ref (qA g 14 1), .ref (qA g 14 2), .ref (qA g 14 3)])) := by rw [eh34, zup_ne _ _ (rne r7 hO.2.1 (by simp))]; exact k24
          have k36 : h34 (qA g 1 0) = some (.inl (gc G 7, 6, .inr (.inr (.inr (.inr fo))))) := by rw [eh34, zup_ne _ _ (rne r7 hO.2.2.1 (by simp))]; exact k25
          have k37 : h34 (qA g 14 0) = some (.inr (2, [.int mo0, .ref (qA g 15 0), .int (nI (qS g).length)])) := by rw [eh34, zup_ne _ _ (rne r7 hL0.2.1 (by simp))]; exact k26
          have k38 : h34 (qA g 14 1) = some (.inr (2, [.int mo1, .ref (qA g 15 1), .int (nI ((List.range (oN s)).map (qA g 3)).length)])) := by rw [eh34, zup_ne _ _ (rne r7 hL1.2.1 (by simp))]; exact k27
          have k39 : h34 (qA g 14 2) = some (.inr (2, [.int mo2, .ref (qA g 15 2), .int (nI ((List.range (rN s)).map (qA g 6)).length)])) := by rw [eh34, zup_ne _ _ (rne r7 hL2.2.1 (by simp))]; exact k28
          have k40 : h34 (qA g 14 3) = some (.inr (2, [.int mo3, .ref (qA g 15 3), .int (nI ((List.range (bN s)).map (qA g 10)).length)])) := by rw [eh34, zup_ne _ _ (rne r7 hL3.2.1 (by simp))]; exact k29
          have k41 : h34 (qA g 8 j2) = some (.inl (gc G 0, 20, .inl f8)) := by rw [eh34, zup_ne _ _ (rne r7 r8 (by simp))]; exact k31
          have k42 : h34 (qA g 9 j2) = some (.inl (gc G 4, 20, .inl f9)) := by rw [eh34, zup_ne _ _ (rne r7 r9 (by simp))]; exact k32
          have k43 : h34 (qA g 6 j2) = some (.inr (5, [.ref (qA g 3 (rT s j2)), .ref (qA g 3 (rB s j2)), .ref (qA g 7 j2), .int (nI ((cnt (fun z => decide (¬ rL s j2 z = -1)) 20) + 1)), .int (rW s j2), .int (rE s j2), .ref (qA g 8 j2), .int (nI (cnt (fun z => decide (¬ rC s j2 z = 0)) 20)), .ref (qA g 9 j2)])) := by rw [eh34, zup_ne _ _ (rne r7 r6 (by simp))]; exact k33
          have k44 : h34 (qA g 7 j2) = some (.inl (gc G 0, 20, .inl (upd f7 (nI j5).toNatClampNeg v))) := by rw [eh34]; exact zup_self _ _ _
          refine v_aload C 0 rfl dX4_limit_91 ?_
          refine v_get (v := .int (nI ((cnt (fun z => decide (¬ rL s j2 z = -1)) 20) + 1))) C F_X4_296 k43 rfl dX4_limit_93 ?_
          have ek : (kLimit s (nI j2) (nI j5) v) = 0 := by simp [kLimit, inN, wth, c1, c4, c7]
          have hv1 : ¬ v = -1 := fun z => by rw [z] at c7; exact absurd (wth_iff.mp c7).1 (by decide)
          have hcnt := cnt_put (p := fun z => decide (¬ rL s j2 z = -1)) (p2 := fun z => decide (¬ up3 (rL s) j2 j5 v j2 z = -1)) (q := j5) (n := 20) (by omega) (fun z hz => by show decide _ = decide _; rw [up3_n (fun y => hz y.2)]) (decide_eq_true (by rw [up3_s]; exact hv1))
          rw [if_neg (fun z => (of_decide_eq_true z) c10)] at hcnt
          exact v_iret C hQ hr rfl (Nat.le_of_ble_eq_true rfl) (Nat.le_of_ble_eq_true rfl) dX4_limit_96 ⟨ek, (by show _ = nI (cnt (fun z => decide (¬ up3 (rL s) (cl (nI j2)) (cl (nI j5)) v (cl (nI j2)) z = -1)) 20); rw [eCr, eCq, hcnt]), (by unfold nLimit; rw [eCr, eCq]; exact XI.ratio (j := j2) hi (rat_kp (zk_put (zk_put (zk_rf _ _) eh23 (Or.inl rfl)) eh34 (Or.inr (Or.inl rfl))) r6 r7 r8 r9) rfl rfl rfl (fun i hi => funext (fun z => up3_n (fun y => hi y.1))) (fun _ _ => rfl) (fun _ _ => rfl) (fun _ _ => rfl) (fun _ _ => rfl) ⟨r6, r7, r8, r9, (by show _ = some (Sum.inr (5, [_, _, _, .int (nI (cnt (fun z => decide (¬ up3 (rL s) j2 j5 v j2 z = -1)) 20)), _, _, _, _, _]) : va_E); rw [hcnt]; exact k43), ⟨_, k44, (fun z hz => by
                by_cases y : z = j5
                · rw [y, nI_clamp (by omega), pk_us]; exact (show up3 (rL s) j2 j5 v j2 j5 = v from up3_s).symm
                · rw [nI_clamp (by omega), pk_un y, q7 z hz]; exact (show up3 (rL s) j2 j5 v j2 z = (rL s) j2 z from up3_n (fun w => y w.2)).symm)⟩, ⟨f8, k41, q8⟩, f9, k42, q9⟩)⟩
      · rw [zb_f c7] at e7; subst e7
        refine v_if_ne (tgt := 48) C dX4_limit_34 (by decide) (fun c45 => absurd c45 (by decide)) (fun c45 => ?_)
        have ek : (kLimit s (nI j2) (nI j5) v) = 2 := by simp [kLimit, inN, wth, c1, c4, c7]
        exact v_throwSW C (TH_50 (i := 290) (tx := "the limit is out of its range") (by decide)) hto dX4_limit_37 dX4_limit_40 dX4_limit_41 dX4_limit_44 dX4_limit_47 (Nat.le_of_ble_eq_true rfl) (Nat.le_of_ble_eq_true rfl) ⟨Nat.le_of_ble_eq_true rfl, Nat.le_of_ble_eq_true rfl⟩ ⟨Nat.le_of_ble_eq_true rfl, Nat.le_of_ble_eq_true rfl⟩ ⟨rfl, Or.inr (⟨ek, rfl⟩)⟩
    · rw [zb_f c4] at e4; subst e4
      refine v_if_ne (tgt := 26) C dX4_limit_12 (by decide) (fun c47 => absurd c47 (by decide)) (fun c47 => ?_)
      have ek : (kLimit s (nI j2) q v) = 1 := by simp [kLimit, inN, wth, c1, c4]
      exact v_throwSW C (TH_37 (i := 288) (tx := "no such test or quarter") (by decide)) hto dX4_limit_15 dX4_limit_18 dX4_limit_19 dX4_limit_22 dX4_limit_25 (Nat.le_of_ble_eq_true rfl) (Nat.le_of_ble_eq_true rfl) ⟨Nat.le_of_ble_eq_true rfl, Nat.le_of_ble_eq_true rfl⟩ ⟨Nat.le_of_ble_eq_true rfl, Nat.le_of_ble_eq_true rfl⟩ ⟨rfl, Or.inl ⟨ek, rfl⟩⟩
  · rw [zb_f c1] at e1; subst e1
    refine v_if_eq (tgt := 15) C dX4_limit_5 (by decide) (fun c49 => ?_) (fun c49 => absurd c49 (by decide))
    have ek : (kLimit s r q v) = 1 := by simp [kLimit, inN, wth, c1]
    exact v_throwSW C (TH_37 (i := 288) (tx := "no such test or quarter") (by decide)) hto dX4_limit_15 dX4_limit_18 dX4_limit_19 dX4_limit_22 dX4_limit_25 (Nat.le_of_ble_eq_true rfl) (Nat.le_of_ble_eq_true rfl) ⟨Nat.le_of_ble_eq_true rfl, Nat.le_of_ble_eq_true rfl⟩ ⟨Nat.le_of_ble_eq_true rfl, Nat.le_of_ble_eq_true rfl⟩ ⟨rfl, Or.inl ⟨ek, rfl⟩⟩
set_option maxHeartbeats 4000000 in
set_option maxRecDepth 100000 in
theorem c_X4_wake (l : Launch) (hl : l.stackTraces = false) (G : zG) (x : Nat) (g : XGh) (s : ZS) (r a v : Int32) (h : zH) (hi : XI G h g x s) (hw : WFs s)  : zMetX eI l yX4_wake cX4_wake 6 (some .int) 15 10 200 G [.ref x, .int r, .int a, .int v] h (fun res h2 => (kWake s r a v) = 0 ∧ res = rW s (cl r) ∧ XQ G h h2 g x (nWake s r a v)) (fun E h2 => h2 = h ∧ (((kWake s r a v) = 1 ∧ E = "java/lang/IndexOutOfBoundsException") ∨ ((kWake s r a v) = 2 ∧ E = "java/lang/IllegalArgumentException"))) := by
  refine con_ofX hl RX4 rfl (by decide +kernel) [(0, .ref x), (1, .int r), (2, .int a), (3, .int v)] rfl (Nat.le_of_ble_eq_true rfl) ?_
  intro zp ze zs zm zargs zbelow zmeth zc C hr hin hto hQ
  obtain ⟨⟨hO, hA, ⟨hL0, hL1, hL2, hL3⟩, hS, hN, hT, hR, hB⟩, hV⟩ := id hi
  obtain ⟨mo0, hmo0⟩ := hL0.1.2.1
  obtain ⟨mo1, hmo1⟩ := hL1.1.2.1
  obtain ⟨mo2, hmo2⟩ := hL2.1.2.1
  obtain ⟨mo3, hmo3⟩ := hL3.1.2.1
  obtain ⟨fo, to, qo⟩ := hO.2.2.2
  have eS : (oS s).length = (qS g).length := by rw [hS.2, List.length_map]
  have hw2 : (oS s).length ≤ 8 := hw.1
  have hw7 : oN s ≤ 10 := hw.2.2.1.1
  have hw17 : rN s ≤ 6 := hw.2.2.2.2.1.1
  have hw25 : bN s ≤ 6 := hw.2.2.2.2.2.1
  refine v_ge C (fun hg => ?_)
  refine v_aload_n C 0 rfl dX4_wake_0 rfl ?_
  refine v_iload_n C 1 rfl dX4_wake_1 rfl ?_
  refine v_callV (rest := []) C (c_X4_isTest l hl G x (qA g 1 0) (qA g 14 0) (qA g 14 1) (qA g 14 2) (qA g 14 3) (qA g 15 2) ((List.range (rN s)).map (qA g 6)) r h hO.1 hL2.1) K_X4_285 hO.1 rfl rfl (Nat.le_of_ble_eq_true rfl) ⟨Nat.le_of_ble_eq_true rfl, Nat.le_of_ble_eq_true rfl⟩ ⟨Nat.le_of_ble_eq_true rfl, Nat.le_of_ble_eq_true rfl⟩ dX4_wake_2 (fun i1 h1 q1 => ?_)
  obtain ⟨e1, rfl⟩ := q1; rw [mr_len] at e1
  by_cases c1 : inN r (rN s)
  · rw [zb_t c1] at e1; subst e1
    obtain ⟨j2, hj2, en2⟩ := inN.nat c1 (by omega)
    subst en2
    have eCr : cl (nI j2) = j2 := cl_nI (by omega)
    obtain ⟨r6, r7, r8, r9, t6, ⟨f7, t7, q7⟩, ⟨f8, t8, q8⟩, f9, t9, q9⟩ := hR j2 (by omega)
    obtain ⟨hwT, hwB, hwW, hwL⟩ := hw.2.2.2.2.1.2.1 j2 (by omega)
    refine v_if_eq (tgt := 20) C dX4_wake_5 (by decide) (fun c3 => absurd c3 (by decide)) (fun c3 => ?_)
    refine v_iload_n C 2 rfl dX4_wake_8 rfl ?_
    refine v_iconst (v := (-1)) C dX4_wake_9 (by decide) ?_
    refine v_icmp_eq (tgt := 31) C dX4_wake_10 (by decide) (fun c4 => ?_) (fun c4 => ?_)
    · refine v_iload_n C 3 rfl dX4_wake_31 rfl ?_
      refine v_ldc C KO_X4_44 dX4_wake_32 ?_
      refine v_ldc C KO_X4_45 dX4_wake_34 ?_
      refine v_callS (rest := []) C (c_X4_isWithin l hl G v (-1000000) 1000000 h) S_X4_46 rfl rfl (Nat.le_of_ble_eq_true rfl) ⟨Nat.le_of_ble_eq_true rfl, Nat.le_of_ble_eq_true rfl⟩ ⟨Nat.le_of_ble_eq_true rfl, Nat.le_of_ble_eq_true rfl⟩ dX4_wake_36 (fun i5 h5 q5 => ?_)
      obtain ⟨e5, rfl⟩ := q5
      by_cases c5 : wth v (-1000000) 1000000
      · rw [zb_t c5] at e5; subst e5
        refine v_if_ne (tgt := 53) C dX4_wake_39 (by decide) (fun c6 => ?_) (fun c6 => absurd c6 (by decide))
        refine v_aload_n C 0 rfl dX4_wake_53 rfl ?_
        refine v_get (v := .ref (qA g 14 2)) C F_X4_24 hO.1 rfl dX4_wake_54 ?_
        refine v_iload_n C 1 rfl dX4_wake_57 rfl ?_
        refine v_callV (rest := []) C (c_Jx4a65c_get_915e3 l hl G (qA g 14 2) (qA g 15 2) ((List.range (rN s)).map (qA g 6)) j2 h hL2.1 (by rw [mr_len]; omega)) K_X4_99 hmo2 rfl rfl (Nat.le_of_ble_eq_true rfl) ⟨Nat.le_of_ble_eq_true rfl, Nat.le_of_ble_eq_true rfl⟩ ⟨Nat.le_of_ble_eq_true rfl, Nat.le_of_ble_eq_true rfl⟩ dX4_wake_58 (fun i7 h7 q7 => ?_)
        obtain ⟨e7, rfl⟩ := q7; rw [mr_get (show j2 < (rN s) by omega)] at e7; subst e7
        refine v_chk C CA_X4_280 t6 dX4_wake_61 ?_
        refine v_astore C [(4, .ref (qA g 6 j2)), (0, .ref x), (1, .int (nI j2)), (2, .int a), (3, .int v)] rfl (by decide) dX4_wake_64 ?_
        refine v_aload C 0 rfl dX4_wake_66 ?_
        refine v_get (v := .int (rW s j2)) C F_X4_303 t6 rfl dX4_wake_68 ?_
        refine v_istore C [(5, .int (rW s j2)), (4, .ref (qA g 6 j2)), (0, .ref x), (1, .int (nI j2)), (2, .int a), (3, .int v)] rfl (by decide) dX4_wake_71 ?_
        refine v_aload C 1 rfl dX4_wake_73 ?_
        refine v_iload_n C 4 rfl dX4_wake_75 rfl ?_
        refine v_put C [.ref (qA g 3 (rT s j2)), .ref (qA g 3 (rB s j2)), .ref (qA g 7 j2), .int (nI (cnt (fun z => decide (¬ rL s j2 z = -1)) 20)), .int a, .int (rE s j2), .ref (qA g 8 j2), .int (nI (cnt (fun z => decide (¬ rC s j2 z = 0)) 20)), .ref (qA g 9 j2)] P_X4_303 t6 rfl rfl rfl (Nat.le_of_ble_eq_true rfl) dX4_wake_76 (v_nw (fun h8 eh8 => ?_))
        have k9 : h8 x = some (.inr (7, [.ref (qA g 1 0), .ref (qA g 14 0), .ref (qA g 14 1), .ref (qA g 14 2), .ref (qA g 14 3)])) := by rw [eh8, zup_ne _ _ (rne r6 hO.2.1 (by simp))]; exact hO.1
        have k10 : h8 (qA g 1 0) = some (.inl (gc G 7, 6, .inr (.inr (.inr (.inr fo))))) := by rw [eh8, zup_ne _ _ (rne r6 hO.2.2.1 (by simp))]; exact to
        have k11 : h8 (qA g 14 0) = some (.inr (2, [.int mo0, .ref (qA g 15 0), .int (nI (qS g).length)])) := by rw [eh8, zup_ne _ _ (rne r6 hL0.2.1 (by simp))]; exact hmo0
        have k12 : h8 (qA g 14 1) = some (.inr (2, [.int mo1, .ref (qA g 15 1), .int (nI ((List.range (oN s)).map (qA g 3)).length)])) := by rw [eh8, zup_ne _ _ (rne r6 hL1.2.1 (by simp))]; exact hmo1
        have k13 : h8 (qA g 14 2) = some (.inr (2, [.int mo2, .ref (qA g 15 2), .int (nI ((List.range (rN s)).map (qA g 6)).length)])) := by rw [eh8, zup_ne _ _ (rne r6 hL2.2.1 (by simp))]; exact hmo2
        have k14 : h8 (qA g 14 3) = some (.inr (2, [.int mo3, .ref (qA g 15 3), .int (nI ((List.range (bN s)).map (qA g 10)).length)])) := by rw [eh8, zup_ne _ _ (rne r6 hL3.2.1 (by simp))]; exact hmo3
        have k15 : h8 (qA g 7 j2) = some (.inl (gc G 0, 20, .inl f7)) := by rw [eh8, zup_ne _ _ (rne r6 r7 (by simp))]; exact t7
        have k16 : h8 (qA g 8 j2) = some (.inl (gc G 0, 20, .inl f8)) := by rw [eh8, zup_ne _ _ (rne r6 r8 (by simp))]; exact t8
        have k17 : h8 (qA g 9 j2) = some (.inl (gc G 4, 20, .inl f9)) := by rw [eh8, zup_ne _ _ (rne r6 r9 (by simp))]; exact t9
        have k18 : h8 (qA g 6 j2) = some (.inr (5, [.ref (qA g 3 (rT s j2)), .ref (qA g 3 (rB s j2)), .ref (qA g 7 j2), .int (nI (cnt (fun z => decide (¬ rL s j2 z = -1)) 20)), .int a, .int (rE s j2), .ref (qA g 8 j2), .int (nI (cnt (fun z => decide (¬ rC s j2 z = 0)) 20)), .ref (qA g 9 j2)])) := by rw [eh8]; exact zup_self _ _ _
        refine v_aload C 1 rfl dX4_wake_79 ?_
        refine v_iload_n C 5 rfl dX4_wake_81 rfl ?_
        refine v_put C [.ref (qA g 3 (rT s j2)), .ref (qA g 3 (rB s j2)), .ref (qA g 7 j2), .int (nI (cnt (fun z => decide (¬ rL s j2 z = -1)) 20)), .int a, .int v, .ref (qA g 8 j2), .int (nI (cnt (fun z => decide (¬ rC s j2 z = 0)) 20)), .ref (qA g 9 j2)] P_X4_306 k18 rfl rfl rfl (Nat.le_of_ble_eq_true rfl) dX4_wake_82 (v_nw (fun h19 eh19 => ?_))
        have k20 : h19 x = some (.inr (7, [.ref (qA g 1 0), .ref (qA g 14 0), .ref (qA g 14 1), .ref (qA g 14 2), .ref (qA g 14 3)])) := by rw [eh19, zup_ne _ _ (rne r6 hO.2.1 (by simp))]; exact k9
        have k21 : h19 (qA g 1 0) = some (.inl (gc G 7, 6, .inr (.inr (.inr (.inr fo))))) := by rw [eh19, zup_ne _ _ (rne r6 hO.2.2.1 (by simp))]; exact k10
        have k22 : h19 (qA g 14 0) = some (.inr (2, [.int mo0, .ref (qA g 15 0), .int (nI (qS g).length)])) := by rw [eh19, zup_ne _ _ (rne r6 hL0.2.1 (by simp))]; exact k11
        have k23 : h19 (qA g 14 1) = some (.inr (2, [.int mo1, .ref (qA g 15 1), .int (nI ((List.range (oN s)).map (qA g 3)).length)])) := by rw [eh19, zup_ne _ _ (rne r6 hL1.2.1 (by simp))]; exact k12
        have k24 : h19 (qA g 14 2) = some (.inr (2, [.int mo2, .ref (qA g 15 2), .int (nI ((List.range (rN s)).map (qA g 6)).length)])) := by rw [eh19, zup_ne _ _ (rne r6 hL2.2.1 (by simp))]; exact k13
        have k25 : h19 (qA g 14 3) = some (.inr (2, [.int mo3, .ref (qA g 15 3), .int (nI ((List.range (bN s)).map (qA g 10)).length)])) := by rw [eh19, zup_ne _ _ (rne r6 hL3.2.1 (by simp))]; exact k14
        have k26 : h19 (qA g 7 j2) = some (.inl (gc G 0, 20, .inl f7)) := by rw [eh19, zup_ne _ _ (rne r6 r7 (by simp))]; exact k15
        have k27 : h19 (qA g 8 j2) = some (.inl (gc G 0, 20, .inl f8)) := by rw [eh19, zup_ne _ _ (rne r6 r8 (by simp))]; exact k16
        have k28 : h19 (qA g 9 j2) = some (.inl (gc G 4, 20, .inl f9)) := by rw [eh19, zup_ne _ _ (rne r6 r9 (by simp))]; exact k17
        have k29 : h19 (qA g 6 j2) = some (.inr (5, [.ref (qA g 3 (rT s j2)), .ref (qA g 3 (rB s j2)), .ref (qA g 7 j2), .int (nI (cnt (fun z => decide (¬ rL s j2 z = -1)) 20)), .int a, .int v, .ref (qA g 8 j2), .int (nI (cnt (fun z => decide (¬ rC s j2 z = 0)) 20)), .ref (qA g 9 j2)])) := by rw [eh19]; exact zup_self _ _ _
        refine v_iload C 0 rfl dX4_wake_85 ?_
        have ek : (kWake s (nI j2) a v) = 0 := by simp [kWake, inN, wth, c1, c4, c5]
        exact v_iret C hQ hr rfl (Nat.le_of_ble_eq_true rfl) (Nat.le_of_ble_eq_true rfl) dX4_wake_87 ⟨ek, (by rw [eCr]), (by unfold nWake; rw [eCr]; exact XI.ratio (j := j2) hi (rat_kp (zk_put (zk_put (zk_rf _ _) eh8 (Or.inl rfl)) eh19 (Or.inl rfl)) r6 r7 r8 r9) rfl rfl rfl (fun _ _ => rfl) (fun i hi => up2_n hi) (fun i hi => up2_n hi) (fun _ _ => rfl) (fun _ _ => rfl) ⟨r6, r7, r8, r9, (by show _ = some (Sum.inr (5, [_, _, _, _, .int (up2 (rW s) j2 a j2), .int (up2 (rE s) j2 v j2), _, _, _]) : va_E); rw [up2_s, up2_s]; exact k29), ⟨f7, k26, q7⟩, ⟨f8, k27, q8⟩, f9, k28, q9⟩)⟩
      · rw [zb_f c5] at e5; subst e5
        refine v_if_ne (tgt := 53) C dX4_wake_39 (by decide) (fun c30 => absurd c30 (by decide)) (fun c30 => ?_)
        have ek : (kWake s (nI j2) a v) = 2 := by simp [kWake, inN, wth, c1, c4, c5]
        exact v_throwSW C (TH_50 (i := 301) (tx := "the least amount is out of its range") (by decide)) hto dX4_wake_42 dX4_wake_45 dX4_wake_46 dX4_wake_49 dX4_wake_52 (Nat.le_of_ble_eq_true rfl) (Nat.le_of_ble_eq_true rfl) ⟨Nat.le_of_ble_eq_true rfl, Nat.le_of_ble_eq_true rfl⟩ ⟨Nat.le_of_ble_eq_true rfl, Nat.le_of_ble_eq_true rfl⟩ ⟨rfl, Or.inr (⟨ek, rfl⟩)⟩
    · refine v_iload_n C 2 rfl dX4_wake_13 rfl ?_
      refine v_callS (rest := []) C (c_X4_isAccount l hl G a h) S_X4_30 rfl rfl (Nat.le_of_ble_eq_true rfl) ⟨Nat.le_of_ble_eq_true rfl, Nat.le_of_ble_eq_true rfl⟩ ⟨Nat.le_of_ble_eq_true rfl, Nat.le_of_ble_eq_true rfl⟩ dX4_wake_14 (fun i32 h32 q32 => ?_)
      obtain ⟨e32, rfl⟩ := q32
      by_cases c32 : inN a 6
      · rw [zb_t c32] at e32; subst e32
        refine v_if_ne (tgt := 31) C dX4_wake_17 (by decide) (fun c33 => ?_) (fun c33 => absurd c33 (by decide))
        refine v_iload_n C 3 rfl dX4_wake_31 rfl ?_
        refine v_ldc C KO_X4_44 dX4_wake_32 ?_
        refine v_ldc C KO_X4_45 dX4_wake_34 ?_
        refine v_callS (rest := []) C (c_X4_isWithin l hl G v (-1000000) 1000000 h) S_X4_46 rfl rfl (Nat.le_of_ble_eq_true rfl) ⟨Nat.le_of_ble_eq_true rfl, Nat.le_of_ble_eq_true rfl⟩ ⟨Nat.le_of_ble_eq_true rfl, Nat.le_of_ble_eq_true rfl⟩ dX4_wake_36 (fun i34 h34 q34 => ?_)
        obtain ⟨e34, rfl⟩ := q34
        by_cases c34 : wth v (-1000000) 1000000
        · rw [zb_t c34] at e34; subst e34
          refine v_if_ne (tgt := 53) C dX4_wake_39 (by decide) (fun c35 => ?_) (fun c35 => absurd c35 (by decide))
          refine v_aload_n C 0 rfl dX4_wake_53 rfl ?_
          refine v_get (v := .ref (qA g 14 2)) C F_X4_24 hO.1 rfl dX4_wake_54 ?_
          refine v_iload_n C 1 rfl dX4_wake_57 rfl ?_
          refine v_callV (rest := []) C (c_Jx4a65c_get_915e3 l hl G (qA g 14 2) (qA g 15 2) ((List.range (rN s)).map (qA g 6)) j2 h hL2.1 (by rw [mr_len]; omega)) K_X4_99 hmo2 rfl rfl (Nat.le_of_ble_eq_true rfl) ⟨Nat.le_of_ble_eq_true rfl, Nat.le_of_ble_eq_true rfl⟩ ⟨Nat.le_of_ble_eq_true rfl, Nat.le_of_ble_eq_true rfl⟩ dX4_wake_58 (fun i36 h36 q36 => ?_)
          obtain ⟨e36, rfl⟩ := q36; rw [mr_get (show j2 < (rN s) by omega)] at e36; subst e36
          refine v_chk C CA_X4_280 t6 dX4_wake_61 ?_
          refine v_astore C [(4, .ref (qA g 6 j2)), (0, .ref x), (1, .int (nI j2)), (2, .int a), (3, .int v)] rfl (by decide) dX4_wake_64 ?_
          refine v_aload C 0 rfl dX4_wake_66 ?_
          refine v_get (v := .int (rW s j2)) C F_X4_303 t6 rfl dX4_wake_68 ?_
          refine v_istore C [(5, .int (rW s j2)), (4, .ref (qA g 6 j2)), (0, .ref x), (1, .int (nI j2)), (2, .int a), (3, .int v)] rfl (by decide) dX4_wake_71 ?_
          refine v_aload C 1 rfl dX4_wake_73 ?_
          refine v_iload_n C 4 rfl dX4_wake_75 rfl ?_
          refine v_put C [.ref (qA g 3 (rT s j2)), .ref (qA g 3 (rB s j2)), .ref (qA g 7 j2), .int (nI (cnt (fun z => decide (¬ rL s j2 z = -1)) 20)), .int a, .int (rE s j2), .ref (qA g 8 j2), .int (nI (cnt (fun z => decide (¬ rC s j2 z = 0)) 20)), .ref (qA g 9 j2)] P_X4_303 t6 rfl rfl rfl (Nat.le_of_ble_eq_true rfl) dX4_wake_76 (v_nw (fun h37 eh37 => ?_))
          have k38 : h37 x = some (.inr (7, [.ref (qA g 1 0), .ref (qA g 14 0), .ref (qA g 14 1), .ref (qA g 14 2), .ref (qA g 14 3)])) := by rw [eh37, zup_ne _ _ (rne r6 hO.2.1 (by simp))]; exact hO.1
          have k39 : h37 (qA g 1 0) = some (.inl (gc G 7, 6, .inr (.inr (.inr (.inr fo))))) := by rw [eh37, zup_ne _ _ (rne r6 hO.2.2.1 (by simp))]; exact to
          have k40 : h37 (qA g 14 0) = some (.inr (2, [.int mo0, .ref (qA g 15 0), .int (nI (qS g).length)])) := by rw [eh37, zup_ne _ _ (rne r6 hL0.2.1 (by simp))]; exact hmo0
          have k41 : h37 (qA g 14 1) = some (.inr (2, [.int mo1, .ref (qA g 15 1), .int (nI ((List.range (oN s)).map (qA g 3)).length)])) := by rw [eh37, zup_ne _ _ (rne r6 hL1.2.1 (by simp))]; exact hmo1
          have k42 : h37 (qA g 14 2) = some (.inr (2, [.int mo2, .ref (qA g 15 2), .int (nI ((List.range (rN s)).map (qA g 6)).length)])) := by rw [eh37, zup_ne _ _ (rne r6 hL2.2.1 (by simp))]; exact hmo2
          have k43 : h37 (qA g 14 3) = some (.inr (2, [.int mo3, .ref (qA g 15 3), .int (nI ((List.range (bN s)).map (qA g 10)).length)])) := by rw [eh37, zup_ne _ _ (rne r6 hL3.2.1 (by simp))]; exact hmo3
          have k44 : h37 (qA g 7 j2) = some (.inl (gc G 0, 20, .inl f7)) := by rw [eh37, zup_ne _ _ (rne r6 r7 (by simp))]; exact t7
          have k45 : h37 (qA g 8 j2) = some (.inl (gc G 0, 20, .inl f8)) := by rw [eh37, zup_ne _ _ (rne r6 r8 (by simp))]; exact t8
          have k46 : h37 (qA g 9 j2) = some (.inl (gc G 4, 20, .inl f9)) := by rw [eh37, zup_ne _ _ (rne r6 r9 (by simp))]; exact t9
          have k47 : h37 (qA g 6 j2) = some (.inr (5, [.ref (qA g 3 (rT s j2)), .ref (qA g 3 (rB s j2)), .ref (qA g 7 j2), .int (nI (cnt (fun z => decide (¬ rL s j2 z = -1)) 20)), .int a, .int (rE s j2), .ref (qA g 8 j2), .int (nI (cnt (fun z => decide (¬ rC s j2 z = 0)) 20)), .ref (qA g 9 j2)])) := by rw [eh37]; exact zup_self _ _ _
          refine v_aload C 1 rfl dX4_wake_79 ?_
          refine v_iload_n C 5 rfl dX4_wake_81 rfl ?_
          refine v_put C [.ref (qA g 3 (rT s j2)), .ref (qA g 3 (rB s j2)), .ref (qA g 7 j2), .int (nI (cnt (fun z => decide (¬ rL s j2 z = -1)) 20)), .int a, .int v, .ref (qA g 8 j2), .int (nI (cnt (fun z => decide (¬ rC s j2 z = 0)) 20)), .ref (qA g 9 j2)] P_X4_306 k47 rfl rfl rfl (Nat.le_of_ble_eq_true rfl) dX4_wake_82 (v_nw (fun h48 eh48 => ?_))
          have k49 : h48 x = some (.inr (7, [.ref (qA g 1 0), .ref (qA g 14 0), .ref (qA g 14 1), .ref (qA g 14 2), .ref (qA g 14 3)])) := by rw [eh48, zup_ne _ _ (rne r6 hO.2.1 (by simp))]; exact k38
          have k50 : h48 (qA g 1 0) = some (.inl (gc G 7, 6, .inr (.inr (.inr (.inr fo))))) := by rw [eh48, zup_ne _ _ (rne r6 hO.2.2.1 (by simp))]; exact k39
          have k51 : h48 (qA g 14 0) = some (.inr (2, [.int mo0, .ref (qA g 15 0), .int (nI (qS g).length)])) := by rw [eh48, zup_ne _ _ (rne r6 hL0.2.1 (by simp))]; exact k40
          have k52 : h48 (qA g 14 1) = some (.inr (2, [.int mo1, .ref (qA g 15 1), .int (nI ((List.range (oN s)).map (qA g 3)).length)])) := by rw [eh48, zup_ne _ _ (rne r6 hL1.2.1 (by simp))]; exact k41
          have k53 : h48 (qA g 14 2) = some (.inr (2, [.int mo2, .ref (qA g 15 2), .int (nI ((List.range (rN s)).map (qA g 6)).length)])) := by rw [eh48, zup_ne _ _ (rne r6 hL2.2.1 (by simp))]; exact k42
          have k54 : h48 (qA g 14 3) = some (.inr (2, [.int mo3, .ref (qA g 15 3), .int (nI ((List.range (bN s)).map (qA g 10)).length)])) := by rw [eh48, zup_ne _ _ (rne r6 hL3.2.1 (by simp))]; exact k43
          have k55 : h48 (qA g 7 j2) = some (.inl (gc G 0, 20, .inl f7)) := by rw [eh48, zup_ne _ _ (rne r6 r7 (by simp))]; exact k44
          have k56 : h48 (qA g 8 j2) = some (.inl (gc G 0, 20, .inl f8)) := by rw [eh48, zup_ne _ _ (rne r6 r8 (by simp))]; exact k45
          have k57 : h48 (qA g 9 j2) = some (.inl (gc G 4, 20, .inl f9)) := by rw [eh48, zup_ne _ _ (rne r6 r9 (by simp))]; exact k46
          have k58 : h48 (qA g 6 j2) = some (.inr (5, [.ref (qA g 3 (rT s j2)), .ref (qA g 3 (rB s j2)), .ref (qA g 7 j2), .int (nI (cnt (fun z => decide (¬ rL s j2 z = -1)) 20)), .int a, .int v, .ref (qA g 8 j2), .int (nI (cnt (fun z => decide (¬ rC s j2 z = 0)) 20)), .ref (qA g 9 j2)])) := by rw [eh48]; exact zup_self _ _ _
          refine v_iload C 0 rfl dX4_wake_85 ?_
          have ek : (kWake s (nI j2) a v) = 0 := by simp [kWake, inN, wth, c1, c4, c32, c34]
          exact v_iret C hQ hr rfl (Nat.le_of_ble_eq_true rfl) (Nat.le_of_ble_eq_true rfl) dX4_wake_87 ⟨ek, (by rw [eCr]), (by unfold nWake; rw [eCr]; exact XI.ratio (j := j2) hi (rat_kp (zk_put (zk_put (zk_rf _ _) eh37 (Or.inl rfl)) eh48 (Or.inl rfl)) r6 r7 r8 r9) rfl rfl rfl (fun _ _ => rfl) (fun i hi => up2_n hi) (fun i hi => up2_n hi) (fun _ _ => rfl) (fun _ _ => rfl) ⟨r6, r7, r8, r9, (by show _ = some (Sum.inr (5, [_, _, _, _, .int (up2 (rW s) j2 a j2), .int (up2 (rE s) j2 v j2), _, _, _]) : va_E); rw [up2_s, up2_s]; exact k58), ⟨f7, k55, q7⟩, ⟨f8, k56, q8⟩, f9, k57, q9⟩)⟩
        · rw [zb_f c34] at e34; subst e34
          refine v_if_ne (tgt := 53) C dX4_wake_39 (by decide) (fun c59 => absurd c59 (by decide)) (fun c59 => ?_)
          have ek : (kWake s (nI j2) a v) = 2 := by simp [kWake, inN, wth, c1, c4, c32, c34]
          exact v_throwSW C (TH_50 (i := 301) (tx := "the least amount is out of its range") (by decide)) hto dX4_wake_42 dX4_wake_45 dX4_wake_46 dX4_wake_49 dX4_wake_52 (Nat.le_of_ble_eq_true rfl) (Nat.le_of_ble_eq_true rfl) ⟨Nat.le_of_ble_eq_true rfl, Nat.le_of_ble_eq_true rfl⟩ ⟨Nat.le_of_ble_eq_true rfl, Nat.le_of_ble_eq_true rfl⟩ ⟨rfl, Or.inr (⟨ek, rfl⟩)⟩
      · rw [zb_f c32] at e32; subst e32
        refine v_if_ne (tgt := 31) C dX4_wake_17 (by decide) (fun c61 => absurd c61 (by decide)) (fun c61 => ?_)
        have ek : (kWake s (nI j2) a v) = 1 := by simp [kWake, inN, wth, c1, c4, c32]
        exact v_throwSW C (TH_37 (i := 299) (tx := "no such test or account") (by decide)) hto dX4_wake_20 dX4_wake_23 dX4_wake_24 dX4_wake_27 dX4_wake_30 (Nat.le_of_ble_eq_true rfl) (Nat.le_of_ble_eq_true rfl) ⟨Nat.le_of_ble_eq_true rfl, Nat.le_of_ble_eq_true rfl⟩ ⟨Nat.le_of_ble_eq_true rfl, Nat.le_of_ble_eq_true rfl⟩ ⟨rfl, Or.inl ⟨ek, rfl⟩⟩
  · rw [zb_f c1] at e1; subst e1
    refine v_if_eq (tgt := 20) C dX4_wake_5 (by decide) (fun c63 => ?_) (fun c63 => absurd c63 (by decide))
    have ek : (kWake s r a v) = 1 := by simp [kWake, inN, wth, c1]
    exact v_throwSW C (TH_37 (i := 299) (tx := "no such test or account") (by decide)) hto dX4_wake_20 dX4_wake_23 dX4_wake_24 dX4_wake_27 dX4_wake_30 (Nat.le_of_ble_eq_true rfl) (Nat.le_of_ble_eq_true rfl) ⟨Nat.le_of_ble_eq_true rfl, Nat.le_of_ble_eq_true rfl⟩ ⟨Nat.le_of_ble_eq_true rfl, Nat.le_of_ble_eq_true rfl⟩ ⟨rfl, Or.inl ⟨ek, rfl⟩⟩
set_option maxHeartbeats 4000000 in
set_option maxRecDepth 100000 in
theorem c_X4_cure (l : Launch) (hl : l.stackTraces = false) (G : zG) (x : Nat) (g : XGh) (s : ZS) (r q v : Int32) (h : zH) (hi : XI G h g x s) (hw : WFs s)  : zMetX eI l yX4_cure cX4_cure 5 (some .int) 15 10 200 G [.ref x, .int r, .int q, .int v] h (fun res h2 => (kCure s r q v) = 0 ∧ res = nI (cnt (fun z => decide (¬ rC (nCure s r q v) (cl r) z = 0)) 20) ∧ XQ G h h2 g x (nCure s r q v)) (fun E h2 => h2 = h ∧ (((kCure s r q v) = 1 ∧ E = "java/lang/IndexOutOfBoundsException") ∨ ((kCure s r q v) = 2 ∧ E = "java/lang/IllegalArgumentException") ∨ ((kCure s r q v) = 3 ∧ E = "java/lang/IllegalStateException"))) := by
  refine con_ofX hl RX4 rfl (by decide +kernel) [(0, .ref x), (1, .int r), (2, .int q), (3, .int v)] rfl (Nat.le_of_ble_eq_true rfl) ?_
  intro zp ze zs zm zargs zbelow zmeth zc C hr hin hto hQ
  obtain ⟨⟨hO, hA, ⟨hL0, hL1, hL2, hL3⟩, hS, hN, hT, hR, hB⟩, hV⟩ := id hi
  obtain ⟨mo0, hmo0⟩ := hL0.1.2.1
  obtain ⟨mo1, hmo1⟩ := hL1.1.2.1
  obtain ⟨mo2, hmo2⟩ := hL2.1.2.1
  obtain ⟨mo3, hmo3⟩ := hL3.1.2.1
  obtain ⟨fo, to, qo⟩ := hO.2.2.2
  have eS : (oS s).length = (qS g).length := by rw [hS.2, List.length_map]
  have hw2 : (oS s).length ≤ 8 := hw.1
  have hw7 : oN s ≤ 10 := hw.2.2.1.1
  have hw17 : rN s ≤ 6 := hw.2.2.2.2.1.1
  have hw25 : bN s ≤ 6 := hw.2.2.2.2.2.1
  refine v_ge C (fun hg => ?_)
  refine v_aload_n C 0 rfl dX4_cure_0 rfl ?_
  refine v_iload_n C 1 rfl dX4_cure_1 rfl ?_
  refine v_callV (rest := []) C (c_X4_isTest l hl G x (qA g 1 0) (qA g 14 0) (qA g 14 1) (qA g 14 2) (qA g 14 3) (qA g 15 2) ((List.range (rN s)).map (qA g 6)) r h hO.1 hL2.1) K_X4_285 hO.1 rfl rfl (Nat.le_of_ble_eq_true rfl) ⟨Nat.le_of_ble_eq_true rfl, Nat.le_of_ble_eq_true rfl⟩ ⟨Nat.le_of_ble_eq_true rfl, Nat.le_of_ble_eq_true rfl⟩ dX4_cure_2 (fun i1 h1 q1 => ?_)
  obtain ⟨e1, rfl⟩ := q1; rw [mr_len] at e1
  by_cases c1 : inN r (rN s)
  · rw [zb_t c1] at e1; subst e1
    obtain ⟨j2, hj2, en2⟩ := inN.nat c1 (by omega)
    subst en2
    have eCr : cl (nI j2) = j2 := cl_nI (by omega)
    obtain ⟨r6, r7, r8, r9, t6, ⟨f7, t7, q7⟩, ⟨f8, t8, q8⟩, f9, t9, q9⟩ := hR j2 (by omega)
    obtain ⟨hwT, hwB, hwW, hwL⟩ := hw.2.2.2.2.1.2.1 j2 (by omega)
    refine v_if_eq (tgt := 15) C dX4_cure_5 (by decide) (fun c3 => absurd c3 (by decide)) (fun c3 => ?_)
    refine v_iload_n C 2 rfl dX4_cure_8 rfl ?_
    refine v_callS (rest := []) C (c_X4_isQuarter l hl G q h) S_X4_34 rfl rfl (Nat.le_of_ble_eq_true rfl) ⟨Nat.le_of_ble_eq_true rfl, Nat.le_of_ble_eq_true rfl⟩ ⟨Nat.le_of_ble_eq_true rfl, Nat.le_of_ble_eq_true rfl⟩ dX4_cure_9 (fun i4 h4 q4 => ?_)
    obtain ⟨e4, rfl⟩ := q4
    by_cases c4 : inN q 20
    · rw [zb_t c4] at e4; subst e4
      obtain ⟨j5, hj5, en5⟩ := inN.nat c4 (by omega)
      subst en5
      have eCq : cl (nI j5) = j5 := cl_nI (by omega)
      refine v_if_ne (tgt := 26) C dX4_cure_12 (by decide) (fun c6 => ?_) (fun c6 => absurd c6 (by decide))
      refine v_iload_n C 3 rfl dX4_cure_26 rfl ?_
      refine v_iconst (v := 1) C dX4_cure_27 (by decide) ?_
      refine v_ldc C KO_X4_45 dX4_cure_28 ?_
      refine v_callS (rest := []) C (c_X4_isWithin l hl G v 1 1000000 h) S_X4_46 rfl rfl (Nat.le_of_ble_eq_true rfl) ⟨Nat.le_of_ble_eq_true rfl, Nat.le_of_ble_eq_true rfl⟩ ⟨Nat.le_of_ble_eq_true rfl, Nat.le_of_ble_eq_true rfl⟩ dX4_cure_30 (fun i7 h7 q7 => ?_)
      obtain ⟨e7, rfl⟩ := q7
      by_cases c7 : wth v 1 1000000
      · rw [zb_t c7] at e7; subst e7
        refine v_if_ne (tgt := 47) C dX4_cure_33 (by decide) (fun c8 => ?_) (fun c8 => absurd c8 (by decide))
        refine v_aload_n C 0 rfl dX4_cure_47 rfl ?_
        refine v_get (v := .ref (qA g 14 2)) C F_X4_24 hO.1 rfl dX4_cure_48 ?_
        refine v_iload_n C 1 rfl dX4_cure_51 rfl ?_
        refine v_callV (rest := []) C (c_Jx4a65c_get_915e3 l hl G (qA g 14 2) (qA g 15 2) ((List.range (rN s)).map (qA g 6)) j2 h hL2.1 (by rw [mr_len]; omega)) K_X4_99 hmo2 rfl rfl (Nat.le_of_ble_eq_true rfl) ⟨Nat.le_of_ble_eq_true rfl, Nat.le_of_ble_eq_true rfl⟩ ⟨Nat.le_of_ble_eq_true rfl, Nat.le_of_ble_eq_true rfl⟩ dX4_cure_52 (fun i9 h9 q9 => ?_)
        obtain ⟨e9, rfl⟩ := q9; rw [mr_get (show j2 < (rN s) by omega)] at e9; subst e9
        refine v_chk C CA_X4_280 t6 dX4_cure_55 ?_
        refine v_astore C [(4, .ref (qA g 6 j2)), (0, .ref x), (1, .int (nI j2)), (2, .int (nI j5)), (3, .int v)] rfl (by decide) dX4_cure_58 ?_
        refine v_aload C 0 rfl dX4_cure_60 ?_
        refine v_get (v := .ref (qA g 8 j2)) C F_X4_311 t6 rfl dX4_cure_62 ?_
        refine v_iload_n C 3 rfl dX4_cure_65 rfl ?_
        refine v_iald C t8 (vpin (show j5 < 20 by omega) (by decide)) dX4_cure_66 (v_eqi (y := (rC s j2 j5)) ((congrArg f8 (nI_clamp (show j5 < 2 ^ 31 by omega))).trans (q8 j5 (by omega))) ?_)
        refine v_if_ne (tgt := 82) C dX4_cure_67 (by decide) (fun c10 => ?_) (fun c10 => ?_)
        · have ek : (kCure s (nI j2) (nI j5) v) = 3 := (if_pos ⟨c1, c4⟩).trans ((if_pos c7).trans (if_pos (by rw [eCr, eCq]; exact Or.inl c10)))
          exact v_throwSW C (TH_64 (i := 318) (tx := "a cure in that quarter, or too many about it") (by decide)) hto dX4_cure_82 dX4_cure_85 dX4_cure_86 dX4_cure_89 dX4_cure_92 (Nat.le_of_ble_eq_true rfl) (Nat.le_of_ble_eq_true rfl) ⟨Nat.le_of_ble_eq_true rfl, Nat.le_of_ble_eq_true rfl⟩ ⟨Nat.le_of_ble_eq_true rfl, Nat.le_of_ble_eq_true rfl⟩ ⟨rfl, Or.inr (Or.inr (⟨ek, rfl⟩))⟩
        · have cz0 : rC s j2 j5 = 0 := by simpa using c10
          refine v_aload C 0 rfl dX4_cure_70 ?_
          refine v_get (v := .ref (qA g 8 j2)) C F_X4_311 t6 rfl dX4_cure_72 ?_
          refine v_iload_n C 3 rfl dX4_cure_75 rfl ?_
          refine v_callS (rest := []) C (c_X4_hasCureLeft l hl G (qA g 8 j2) j5 f8 (rC s j2) h t8 q8 (by omega)) S_X4_314 rfl rfl (Nat.le_of_ble_eq_true rfl) ⟨Nat.le_of_ble_eq_true rfl, Nat.le_of_ble_eq_true rfl⟩ ⟨Nat.le_of_ble_eq_true rfl, Nat.le_of_ble_eq_true rfl⟩ dX4_cure_76 (fun i12 h12 q12 => ?_)
          obtain ⟨e12, rfl⟩ := q12
          by_cases c12 : cuM (rC s j2) j5 4 < 2
          · rw [zb_t c12] at e12; subst e12
            refine v_if_ne (tgt := 93) C dX4_cure_79 (by decide) (fun c13 => ?_) (fun c13 => absurd c13 (by decide))
            refine v_aload C 0 rfl dX4_cure_93 ?_
            refine v_get (v := .ref (qA g 8 j2)) C F_X4_311 t6 rfl dX4_cure_95 ?_
            refine v_iload_n C 3 rfl dX4_cure_98 rfl ?_
            refine v_iload_n C 4 rfl dX4_cure_99 rfl ?_
            refine v_iast C t8 (vpin (by omega) (by decide)) dX4_cure_100 (v_nw (fun h14 eh14 => ?_))
            have k15 : h14 x = some (.inr (7, [.ref (qA g 1 0), .ref (qA g 14 0), .ref (qA g 14 1), .ref (qA g 14 2), .ref (qA g 14 3)])) := by rw [eh14, zup_ne _ _ (rne r8 hO.2.1 (by simp))]; exact hO.1
            have k16 : h14 (qA g 1 0) = some (.inl (gc G 7, 6, .inr (.inr (.inr (.inr fo))))) := by rw [eh14, zup_ne _ _ (rne r8 hO.2.2.1 (by simp))]; exact to
            have k17 : h14 (qA g 14 0) = some (.inr (2, [.int mo0, .ref (qA g 15 0), .int (nI (qS g).length)])) := by rw [eh14, zup_ne _ _ (rne r8 hL0.2.1 (by simp))]; exact hmo0
            have k18 : h14 (qA g 14 1) = some (.inr (2, [.int mo1, .ref (qA g 15 1), .int (nI ((List.range (oN s)).map (qA g 3)).length)])) := by rw [eh14, zup_ne _ _ (rne r8 hL1.2.1 (by simp))]; exact hmo1
            have k19 : h14 (qA g 14 2) = some (.inr (2, [.int mo2, .ref (qA g 15 2), .int (nI ((List.range (rN s)).map (qA g 6)).length)])) := by rw [eh14, zup_ne _ _ (rne r8 hL2.2.1 (by simp))]; exact hmo2
            have k20 : h14 (qA g 14 3) = some (.inr (2, [.int mo3, .ref (qA g 15 3), .int (nI ((List.range (bN s)).map (qA g 10)).length)])) := by rw [eh14, zup_ne _ _ (rne r8 hL3.2.1 (by simp))]; exact hmo3
            have k21 : h14 (qA g 6 j2) = some (.inr (5, [.ref (qA g 3 (rT s j2)), .ref (qA g 3 (rB s j2)), .ref (qA g 7 j2), .int (nI (cnt (fun z => decide (¬ rL s j2 z = -1)) 20)), .int (rW s j2), .int (rE s j2), .ref (qA g 8 j2), .int (nI (cnt (fun z => decide (¬ rC s j2 z = 0)) 20)), .ref (qA g 9 j2)])) := by rw [eh14, zup_ne _ _ (rne r8 r6 (by simp))]; exact t6
            have k22 : h14 (qA g 7 j2) = some (.inl (gc G 0, 20, .inl f7)) := by rw [eh14, zup_ne _ _ (rne r8 r7 (by simp))]; exact t7
            have k23 : h14 (qA g 9 j2) = some (.inl (gc G 4, 20, .inl f9)) := by rw [eh14, zup_ne _ _ (rne r8 r9 (by simp))]; exact t9
            have k24 : h14 (qA g 8 j2) = some (.inl (gc G 0, 20, .inl (upd f8 (nI j5).toNatClampNeg v))) := by rw [eh14]; exact zup_self _ _ _
            refine v_aload C 0 rfl dX4_cure_101 ?_
            refine v_dup C dX4_cure_103 rfl ?_
            refine v_get (v := .int (nI (cnt (fun z => decide (¬ rC s j2 z = 0)) 20))) C F_X4_320 k21 rfl dX4_cure_104 ?_
            refine v_iconst (v := 1) C dX4_cure_107 (by decide) ?_
            refine v_iadd C dX4_cure_108 (v_eqi (nI_adk (cnt (fun z => decide (¬ rC s j2 z = 0)) 20) 1 (by decide)) ?_)
            refine v_put C [.ref (qA g 3 (rT s j2)), .ref (qA g 3 (rB s j2)), .ref (qA g 7 j2), .int (nI (cnt (fun z => decide (¬ rL s j2 z = -1)) 20)), .int (rW s j2), .int (rE s j2), .ref (qA g 8 j2), .int (nI ((cnt (fun z => decide (¬ rC s j2 z = 0)) 20) + 1)), .ref (qA g 9 j2)] P_X4_320 k21 rfl rfl rfl (Nat.le_of_ble_eq_true rfl) dX4_cure_109 (v_nw (fun h26 eh26 => ?_))
            have k27 : h26 x = some (.inr (7, [.ref (qA g 1 0), .ref (qA g 14 0), .ref (qA g 14 1), .ref (qA g 14 2), .ref (qA g 14 3)])) := by rw [eh26, zup_ne _ _ (rne r6 hO.2.1 (by simp))]; exact k15
            have k28 : h26 (qA g 1 0) = some (.inl (gc G 7, 6, .inr (.inr (.inr (.inr fo))))) := by rw [eh26, zup_ne _ _ (rne r6 hO.2.2.1 (by simp))]; exact k16
            have k29 : h26 (qA g 14 0) = some (.inr (2, [.int mo0, .ref (qA g 15 0), .int (nI (qS g).length)])) := by rw [eh26, zup_ne _ _ (rne r6 hL0.2.1 (by simp))]; exact k17
            have k30 : h26 (qA g 14 1) = some (.inr (2, [.int mo1, .ref (qA g 15 1), .int (nI ((List.range (oN s)).map (qA g 3)).length)])) := by rw [eh26, zup_ne _ _ (rne r6 hL1.2.1 (by simp))]; exact k18
            have k31 : h26 (qA g 14 2) = some (.inr (2, [.int mo2, .ref (qA g 15 2), .int (nI ((List.range (rN s)).map (qA g 6)).length)])) := by rw [eh26, zup_ne _ _ (rne r6 hL2.2.1 (by simp))]; exact k19
            have k32 : h26 (qA g 14 3) = some (.inr (2, [.int mo3, .ref (qA g 15 3), .int (nI ((List.range (bN s)).map (qA g 10)).length)])) := by rw [eh26, zup_ne _ _ (rne r6 hL3.2.1 (by simp))]; exact k20
            have k33 : h26 (qA g 7 j2) = some (.inl (gc G 0, 20, .inl f7)) := by rw [eh26, zup_ne _ _ (rne r6 r7 (by simp))]; exact k22
            have k34 : h26 (qA g 9 j2) = some (.inl (gc G 4, 20, .inl f9)) := by rw [eh26, zup_ne _ _ (rne r6 r9 (by simp))]; exact k23
            have k35 : h26 (qA g 8 j2) = some (.inl (gc G 0, 20, .inl (upd f8 (nI j5).toNatClampNeg v))) := by rw [eh26, zup_ne _ _ (rne r6 r8 (by simp))]; exact k24
            have k36 : h26 (qA g 6 j2) = some (.inr (5, [.ref (qA g 3 (rT s j2)), .ref (qA g 3 (rB s j2)), .ref (qA g 7 j2), .int (nI (cnt (fun z => decide (¬ rL s j2 z = -1)) 20)), .int (rW s j2), .int (rE s j2), .ref (qA g 8 j2), .int (nI ((cnt (fun z => decide (¬ rC s j2 z = 0)) 20) + 1)), .ref (qA g 9 j2)])) := by rw [eh26]; exact zup_self _ _ _
            refine v_aload C 0 rfl dX4_cure_112 ?_
            refine v_get (v := .int (nI ((cnt (fun z => decide (¬ rC s j2 z = 0)) 20) + 1))) C F_X4_320 k36 rfl dX4_cure_114 ?_
            have ek : (kCure s (nI j2) (nI j5) v) = 0 := (if_pos ⟨c1, c4⟩).trans ((if_pos c7).trans (if_neg (by rw [eCr, eCq, ← cuM_4]; exact fun z => z.elim (fun y => y cz0) (fun y => y c12))))
            have hv1 : ¬ v = 0 := fun z => by rw [z] at c7; exact absurd (wth_iff.mp c7).1 (by decide)
            have hcnt := cnt_put (p := fun z => decide (¬ rC s j2 z = 0)) (p2 := fun z => decide (¬ up3 (rC s) j2 j5 v j2 z = 0)) (q := j5) (n := 20) (by omega) (fun z hz => by show decide _ = decide _; rw [up3_n (fun y => hz y.2)]) (decide_eq_true (by rw [up3_s]; exact hv1))
            rw [if_neg (fun z => (of_decide_eq_true z) cz0)] at hcnt
            exact v_iret C hQ hr rfl (Nat.le_of_ble_eq_true rfl) (Nat.le_of_ble_eq_true rfl) dX4_cure_117 ⟨ek, (by show _ = nI (cnt (fun z => decide (¬ up3 (rC s) (cl (nI j2)) (cl (nI j5)) v (cl (nI j2)) z = 0)) 20); rw [eCr, eCq, hcnt]), (by unfold nCure; rw [eCr, eCq]; exact XI.ratio (j := j2) hi (rat_kp (zk_put (zk_put (zk_rf _ _) eh14 (Or.inr (Or.inr (Or.inl rfl)))) eh26 (Or.inl rfl)) r6 r7 r8 r9) rfl rfl rfl (fun _ _ => rfl) (fun _ _ => rfl) (fun _ _ => rfl) (fun i hi => funext (fun z => up3_n (fun y => hi y.1))) (fun _ _ => rfl) ⟨r6, r7, r8, r9, (by show _ = some (Sum.inr (5, [_, _, _, _, _, _, _, .int (nI (cnt (fun z => decide (¬ up3 (rC s) j2 j5 v j2 z = 0)) 20)), _]) : va_E); rw [hcnt]; exact k36), ⟨f7, k33, q7⟩, ⟨_, k35, (fun z hz => by
                  by_cases y : z = j5
                  · rw [y, nI_clamp (by omega), pk_us]; exact (show up3 (rC s) j2 j5 v j2 j5 = v from up3_s).symm
                  · rw [nI_clamp (by omega), pk_un y, q8 z hz]; exact (show up3 (rC s) j2 j5 v j2 z = (rC s) j2 z from up3_n (fun w => y w.2)).symm)⟩, f9, k34, q9⟩)⟩
          · rw [zb_f c12] at e12; subst e12
            refine v_if_ne (tgt := 93) C dX4_cure_79 (by decide) (fun c37 => absurd c37 (by decide)) (fun c37 => ?_)
            have ek : (kCure s (nI j2) (nI j5) v) = 3 := (if_pos ⟨c1, c4⟩).trans ((if_pos c7).trans (if_pos (by rw [eCr, eCq, ← cuM_4]; exact Or.inr c12)))
            exact v_throwSW C (TH_64 (i := 318) (tx := "a cure in that quarter, or too many about it") (by decide)) hto dX4_cure_82 dX4_cure_85 dX4_cure_86 dX4_cure_89 dX4_cure_92 (Nat.le_of_ble_eq_true rfl) (Nat.le_of_ble_eq_true rfl) ⟨Nat.le_of_ble_eq_true rfl, Nat.le_of_ble_eq_true rfl⟩ ⟨Nat.le_of_ble_eq_true rfl, Nat.le_of_ble_eq_true rfl⟩ ⟨rfl, Or.inr (Or.inr (⟨ek, rfl⟩))⟩
      · rw [zb_f c7] at e7; subst e7
        refine v_if_ne (tgt := 47) C dX4_cure_33 (by decide) (fun c39 => absurd c39 (by decide)) (fun c39 => ?_)
        have ek : (kCure s (nI j2) (nI j5) v) = 2 := by simp [kCure, inN, wth, c1, c4, c7]
        exact v_throwSW C (TH_50 (i := 309) (tx := "the money is out of its range") (by decide)) hto dX4_cure_36 dX4_cure_39 dX4_cure_40 dX4_cure_43 dX4_cure_46 (Nat.le_of_ble_eq_true rfl) (Nat.le_of_ble_eq_true rfl) ⟨Nat.le_of_ble_eq_true rfl, Nat.le_of_ble_eq_true rfl⟩ ⟨Nat.le_of_ble_eq_true rfl, Nat.le_of_ble_eq_true rfl⟩ ⟨rfl, Or.inr (Or.inl ⟨ek, rfl⟩)⟩
    · rw [zb_f c4] at e4; subst e4
      refine v_if_ne (tgt := 26) C dX4_cure_12 (by decide) (fun c41 => absurd c41 (by decide)) (fun c41 => ?_)
      have ek : (kCure s (nI j2) q v) = 1 := by simp [kCure, inN, wth, c1, c4]
      exact v_throwSW C (TH_37 (i := 288) (tx := "no such test or quarter") (by decide)) hto dX4_cure_15 dX4_cure_18 dX4_cure_19 dX4_cure_22 dX4_cure_25 (Nat.le_of_ble_eq_true rfl) (Nat.le_of_ble_eq_true rfl) ⟨Nat.le_of_ble_eq_true rfl, Nat.le_of_ble_eq_true rfl⟩ ⟨Nat.le_of_ble_eq_true rfl, Nat.le_of_ble_eq_true rfl⟩ ⟨rfl, Or.inl ⟨ek, rfl⟩⟩
  · rw [zb_f c1] at e1; subst e1
    refine v_if_eq (tgt := 15) C dX4_cure_5 (by decide) (fun c43 => ?_) (fun c43 => absurd c43 (by decide))
    have ek : (kCure s r q v) = 1 := by simp [kCure, inN, wth, c1]
    exact v_throwSW C (TH_37 (i := 288) (tx := "no such test or quarter") (by decide)) hto dX4_cure_15 dX4_cure_18 dX4_cure_19 dX4_cure_22 dX4_cure_25 (Nat.le_of_ble_eq_true rfl) (Nat.le_of_ble_eq_true rfl) ⟨Nat.le_of_ble_eq_true rfl, Nat.le_of_ble_eq_true rfl⟩ ⟨Nat.le_of_ble_eq_true rfl, Nat.le_of_ble_eq_true rfl⟩ ⟨rfl, Or.inl ⟨ek, rfl⟩⟩
set_option maxHeartbeats 4000000 in
set_option maxRecDepth 100000 in
theorem c_X4_waive (l : Launch) (hl : l.stackTraces = false) (G : zG) (x : Nat) (g : XGh) (s : ZS) (r q : Int32) (h : zH) (hi : XI G h g x s) (hw : WFs s)  : zMetX eI l yX4_waive cX4_waive 4 (some .boolean) 15 10 200 G [.ref x, .int r, .int q] h (fun res h2 => (kIsRQ s r q) = 0 ∧ res = b01 (!(rV s (cl r) (cl q))) ∧ XQ G h h2 g x (nWaive s r q)) (fun E h2 => h2 = h ∧ (((kIsRQ s r q) = 1 ∧ E = "java/lang/IndexOutOfBoundsException"))) := by
  refine con_ofX hl RX4 rfl (by decide +kernel) [(0, .ref x), (1, .int r), (2, .int q)] rfl (Nat.le_of_ble_eq_true rfl) ?_
  intro zp ze zs zm zargs zbelow zmeth zc C hr hin hto hQ
  obtain ⟨⟨hO, hA, ⟨hL0, hL1, hL2, hL3⟩, hS, hN, hT, hR, hB⟩, hV⟩ := id hi
  obtain ⟨mo0, hmo0⟩ := hL0.1.2.1
  obtain ⟨mo1, hmo1⟩ := hL1.1.2.1
  obtain ⟨mo2, hmo2⟩ := hL2.1.2.1
  obtain ⟨mo3, hmo3⟩ := hL3.1.2.1
  obtain ⟨fo, to, qo⟩ := hO.2.2.2
  have eS : (oS s).length = (qS g).length := by rw [hS.2, List.length_map]
  have hw2 : (oS s).length ≤ 8 := hw.1
  have hw7 : oN s ≤ 10 := hw.2.2.1.1
  have hw17 : rN s ≤ 6 := hw.2.2.2.2.1.1
  have hw25 : bN s ≤ 6 := hw.2.2.2.2.2.1
  refine v_ge C (fun hg => ?_)
  refine v_aload_n C 0 rfl dX4_waive_0 rfl ?_
  refine v_iload_n C 1 rfl dX4_waive_1 rfl ?_
  refine v_callV (rest := []) C (c_X4_isTest l hl G x (qA g 1 0) (qA g 14 0) (qA g 14 1) (qA g 14 2) (qA g 14 3) (qA g 15 2) ((List.range (rN s)).map (qA g 6)) r h hO.1 hL2.1) K_X4_285 hO.1 rfl rfl (Nat.le_of_ble_eq_true rfl) ⟨Nat.le_of_ble_eq_true rfl, Nat.le_of_ble_eq_true rfl⟩ ⟨Nat.le_of_ble_eq_true rfl, Nat.le_of_ble_eq_true rfl⟩ dX4_waive_2 (fun i1 h1 q1 => ?_)
  obtain ⟨e1, rfl⟩ := q1; rw [mr_len] at e1
  by_cases c1 : inN r (rN s)
  · rw [zb_t c1] at e1; subst e1
    obtain ⟨j2, hj2, en2⟩ := inN.nat c1 (by omega)
    subst en2
    have eCr : cl (nI j2) = j2 := cl_nI (by omega)
    obtain ⟨r6, r7, r8, r9, t6, ⟨f7, t7, q7⟩, ⟨f8, t8, q8⟩, f9, t9, q9⟩ := hR j2 (by omega)
    obtain ⟨hwT, hwB, hwW, hwL⟩ := hw.2.2.2.2.1.2.1 j2 (by omega)
    refine v_if_eq (tgt := 15) C dX4_waive_5 (by decide) (fun c3 => absurd c3 (by decide)) (fun c3 => ?_)
    refine v_iload_n C 2 rfl dX4_waive_8 rfl ?_
    refine v_callS (rest := []) C (c_X4_isQuarter l hl G q h) S_X4_34 rfl rfl (Nat.le_of_ble_eq_true rfl) ⟨Nat.le_of_ble_eq_true rfl, Nat.le_of_ble_eq_true rfl⟩ ⟨Nat.le_of_ble_eq_true rfl, Nat.le_of_ble_eq_true rfl⟩ dX4_waive_9 (fun i4 h4 q4 => ?_)
    obtain ⟨e4, rfl⟩ := q4
    by_cases c4 : inN q 20
    · rw [zb_t c4] at e4; subst e4
      obtain ⟨j5, hj5, en5⟩ := inN.nat c4 (by omega)
      subst en5
      have eCq : cl (nI j5) = j5 := cl_nI (by omega)
      refine v_if_ne (tgt := 26) C dX4_waive_12 (by decide) (fun c6 => ?_) (fun c6 => absurd c6 (by decide))
      refine v_aload_n C 0 rfl dX4_waive_26 rfl ?_
      refine v_get (v := .ref (qA g 14 2)) C F_X4_24 hO.1 rfl dX4_waive_27 ?_
      refine v_iload_n C 1 rfl dX4_waive_30 rfl ?_
      refine v_callV (rest := []) C (c_Jx4a65c_get_915e3 l hl G (qA g 14 2) (qA g 15 2) ((List.range (rN s)).map (qA g 6)) j2 h hL2.1 (by rw [mr_len]; omega)) K_X4_99 hmo2 rfl rfl (Nat.le_of_ble_eq_true rfl) ⟨Nat.le_of_ble_eq_true rfl, Nat.le_of_ble_eq_true rfl⟩ ⟨Nat.le_of_ble_eq_true rfl, Nat.le_of_ble_eq_true rfl⟩ dX4_waive_31 (fun i7 h7 q7 => ?_)
      obtain ⟨e7, rfl⟩ := q7; rw [mr_get (show j2 < (rN s) by omega)] at e7; subst e7
      refine v_chk C CA_X4_280 t6 dX4_waive_34 ?_
      refine v_astore_n C [(3, .ref (qA g 6 j2)), (0, .ref x), (1, .int (nI j2)), (2, .int (nI j5))] rfl (by decide) dX4_waive_37 rfl ?_
      refine v_aload_n C 0 rfl dX4_waive_38 rfl ?_
      refine v_get (v := .ref (qA g 9 j2)) C F_X4_323 t6 rfl dX4_waive_39 ?_
      refine v_iload_n C 3 rfl dX4_waive_42 rfl ?_
      refine v_aload_n C 0 rfl dX4_waive_43 rfl ?_
      refine v_get (v := .ref (qA g 9 j2)) C F_X4_323 t6 rfl dX4_waive_44 ?_
      refine v_iload_n C 3 rfl dX4_waive_47 rfl ?_
      refine v_zald C t9 (vpin (show j5 < 20 by omega) (by decide)) dX4_waive_48 (v_eqi (y := (b01 (rV s j2 j5))) ((congrArg f9 (nI_clamp (show j5 < 2 ^ 31 by omega))).trans (q9 j5 (by omega))) ?_)
      refine v_if_ne (tgt := 56) C dX4_waive_49 (by decide) (fun c8 => ?_) (fun c8 => ?_)
      · have hV2 : rV s j2 j5 = true := by
            cases hz : rV s j2 j5
            · exact absurd (show b01 (rV s j2 j5) = 0 by rw [hz]; rfl) c8
            · rfl
        refine v_iconst (v := 0) C dX4_waive_56 (by decide) ?_
        refine v_zast C t9 (vpin (by omega) (by decide)) dX4_waive_57 (v_nw (fun h9 eh9 => ?_))
        have k10 : h9 x = some (.inr (7, [.ref (qA g 1 0), .ref (qA g 14 0), .ref (qA g 14 1), .ref (qA g 14 2), .ref (qA g 14 3)])) := by rw [eh9, zup_ne _ _ (rne r9 hO.2.1 (by simp))]; exact hO.1
        have k11 : h9 (qA g 1 0) = some (.inl (gc G 7, 6, .inr (.inr (.inr (.inr fo))))) := by rw [eh9, zup_ne _ _ (rne r9 hO.2.2.1 (by simp))]; exact to
        have k12 : h9 (qA g 14 0) = some (.inr (2, [.int mo0, .ref (qA g 15 0), .int (nI (qS g).length)])) := by rw [eh9, zup_ne _ _ (rne r9 hL0.2.1 (by simp))]; exact hmo0
        have k13 : h9 (qA g 14 1) = some (.inr (2, [.int mo1, .ref (qA g 15 1), .int (nI ((List.range (oN s)).map (qA g 3)).length)])) := by rw [eh9, zup_ne _ _ (rne r9 hL1.2.1 (by simp))]; exact hmo1
        have k14 : h9 (qA g 14 2) = some (.inr (2, [.int mo2, .ref (qA g 15 2), .int (nI ((List.range (rN s)).map (qA g 6)).length)])) := by rw [eh9, zup_ne _ _ (rne r9 hL2.2.1 (by simp))]; exact hmo2
        have k15 : h9 (qA g 14 3) = some (.inr (2, [.int mo3, .ref (qA g 15 3), .int (nI ((List.range (bN s)).map (qA g 10)).length)])) := by rw [eh9, zup_ne _ _ (rne r9 hL3.2.1 (by simp))]; exact hmo3
        have k16 : h9 (qA g 6 j2) = some (.inr (5, [.ref (qA g 3 (rT s j2)), .ref (qA g 3 (rB s j2)), .ref (qA g 7 j2), .int (nI (cnt (fun z => decide (¬ rL s j2 z = -1)) 20)), .int (rW s j2), .int (rE s j2), .ref (qA g 8 j2), .int (nI (cnt (fun z => decide (¬ rC s j2 z = 0)) 20)), .ref (qA g 9 j2)])) := by rw [eh9, zup_ne _ _ (rne r9 r6 (by simp))]; exact t6
        have k17 : h9 (qA g 7 j2) = some (.inl (gc G 0, 20, .inl f7)) := by rw [eh9, zup_ne _ _ (rne r9 r7 (by simp))]; exact t7
        have k18 : h9 (qA g 8 j2) = some (.inl (gc G 0, 20, .inl f8)) := by rw [eh9, zup_ne _ _ (rne r9 r8 (by simp))]; exact t8
        have k19 : h9 (qA g 9 j2) = some (.inl (gc G 4, 20, .inl (upd f9 (nI j5).toNatClampNeg (vp_nar .boolean 0)))) := by rw [eh9]; exact zup_self _ _ _
        refine v_aload_n C 0 rfl dX4_waive_58 rfl ?_
        refine v_get (v := .ref (qA g 9 j2)) C F_X4_323 k16 rfl dX4_waive_59 ?_
        refine v_iload_n C 3 rfl dX4_waive_62 rfl ?_
        have hwl : (0 : Int32) = b01 (!true) := rfl
        refine v_zald C k19 (vpin (show j5 < 20 by omega) (by decide)) dX4_waive_63 (v_eqi (y := 0) (by rw [nI_clamp (show j5 < 2 ^ 31 by omega), pk_us]; rfl) ?_)
        have ek : (kIsRQ s (nI j2) (nI j5)) = 0 := by simp [kIsRQ, inN, c1, c4]
        exact v_iret C hQ hr rfl (Nat.le_of_ble_eq_true rfl) (Nat.le_of_ble_eq_true rfl) dX4_waive_64 ⟨ek, (by rw [eCr, eCq, hV2]; exact hwl), (by unfold nWaive; rw [eCr, eCq]; exact XI.ratio (j := j2) hi (rat_kp (zk_put (zk_rf _ _) eh9 (Or.inr (Or.inr (Or.inr rfl)))) r6 r7 r8 r9) rfl rfl rfl (fun _ _ => rfl) (fun _ _ => rfl) (fun _ _ => rfl) (fun _ _ => rfl) (fun i hi => funext (fun z => up3_n (fun y => hi y.1))) ⟨r6, r7, r8, r9, k16, ⟨f7, k17, q7⟩, ⟨f8, k18, q8⟩, _, k19, (fun z hz => by
              by_cases y : z = j5
              · rw [y, nI_clamp (by omega), pk_us]; exact ((congrArg b01 (show up3 (rV s) j2 j5 (!(rV s j2 j5)) j2 j5 = !(rV s j2 j5) from up3_s)).trans (by rw [hV2]; rfl)).symm
              · rw [nI_clamp (by omega), pk_un y, q9 z hz]; exact (congrArg b01 (show up3 (rV s) j2 j5 (!(rV s j2 j5)) j2 z = rV s j2 z from up3_n (fun w => y w.2))).symm)⟩)⟩
      · have hV2 : rV s j2 j5 = false := by
            cases hz : rV s j2 j5
            · rfl
            · exact absurd (show b01 (rV s j2 j5) = 0 by simpa using c8) (by rw [hz]; decide)
        refine v_iconst (v := 1) C dX4_waive_52 (by decide) ?_
        refine v_goto (tgt := 57) C dX4_waive_53 (by decide) ?_
        refine v_zast C t9 (vpin (by omega) (by decide)) dX4_waive_57 (v_nw (fun h20 eh20 => ?_))
        have k21 : h20 x = some (.inr (7, [.ref (qA g 1 0), .ref (qA g 14 0), .ref (qA g 14 1), .ref (qA g 14 2), .ref (qA g 14 3)])) := by rw [eh20, zup_ne _ _ (rne r9 hO.2.1 (by simp))]; exact hO.1
        have k22 : h20 (qA g 1 0) = some (.inl (gc G 7, 6, .inr (.inr (.inr (.inr fo))))) := by rw [eh20, zup_ne _ _ (rne r9 hO.2.2.1 (by simp))]; exact to
        have k23 : h20 (qA g 14 0) = some (.inr (2, [.int mo0, .ref (qA g 15 0), .int (nI (qS g).length)])) := by rw [eh20, zup_ne _ _ (rne r9 hL0.2.1 (by simp))]; exact hmo0
        have k24 : h20 (qA g 14 1) = some (.inr (2, [.int mo1, .ref (qA g 15 1), .int (nI ((List.range (oN s)).map (qA g 3)).length)])) := by rw [eh20, zup_ne _ _ (rne r9 hL1.2.1 (by simp))]; exact hmo1
        have k25 : h20 (qA g 14 2) = some (.inr (2, [.int mo2, .ref (qA g 15 2), .int (nI ((List.range (rN s)).map (qA g 6)).length)])) := by rw [eh20, zup_ne _ _ (rne r9 hL2.2.1 (by simp))]; exact hmo2
        have k26 : h20 (qA g 14 3) = some (.inr (2, [.int mo3, .ref (qA g 15 3), .int (nI ((List.range (bN s)).map (qA g 10)).length)])) := by rw [eh20, zup_ne _ _ (rne r9 hL3.2.1 (by simp))]; exact hmo3
        have k27 : h20 (qA g 6 j2) = some (.inr (5, [.ref (qA g 3 (rT s j2)), .ref (qA g 3 (rB s j2)), .ref (qA g 7 j2), .int (nI (cnt (fun z => decide (¬ rL s j2 z = -1)) 20)), .int (rW s j2), .int (rE s j2), .ref (qA g 8 j2), .int (nI (cnt (fun z => decide (¬ rC s j2 z = 0)) 20)), .ref (qA g 9 j2)])) := by rw [eh20, zup_ne _ _ (rne r9 r6 (by simp))]; exact t6
        have k28 : h20 (qA g 7 j2) = some (.inl (gc G 0, 20, .inl f7)) := by rw [eh20, zup_ne _ _ (rne r9 r7 (by simp))]; exact t7
        have k29 : h20 (qA g 8 j2) = some (.inl (gc G 0, 20, .inl f8)) := by rw [eh20, zup_ne _ _ (rne r9 r8 (by simp))]; exact t8
        have k30 : h20 (qA g 9 j2) = some (.inl (gc G 4, 20, .inl (upd f9 (nI j5).toNatClampNeg (vp_nar .boolean 1)))) := by rw [eh20]; exact zup_self _ _ _
        refine v_aload_n C 0 rfl dX4_waive_58 rfl ?_
        refine v_get (v := .ref (qA g 9 j2)) C F_X4_323 k27 rfl dX4_waive_59 ?_
        refine v_iload_n C 3 rfl dX4_waive_62 rfl ?_
        have hwl : (1 : Int32) = b01 (!false) := rfl
        refine v_zald C k30 (vpin (show j5 < 20 by omega) (by decide)) dX4_waive_63 (v_eqi (y := 1) (by rw [nI_clamp (show j5 < 2 ^ 31 by omega), pk_us]; rfl) ?_)
        have ek : (kIsRQ s (nI j2) (nI j5)) = 0 := by simp [kIsRQ, inN, c1, c4]
        exact v_iret C hQ hr rfl (Nat.le_of_ble_eq_true rfl) (Nat.le_of_ble_eq_true rfl) dX4_waive_64 ⟨ek, (by rw [eCr, eCq, hV2]; exact hwl), (by unfold nWaive; rw [eCr, eCq]; exact XI.ratio (j := j2) hi (rat_kp (zk_put (zk_rf _ _) eh20 (Or.inr (Or.inr (Or.inr rfl)))) r6 r7 r8 r9) rfl rfl rfl (fun _ _ => rfl) (fun _ _ => rfl) (fun _ _ => rfl) (fun _ _ => rfl) (fun i hi => funext (fun z => up3_n (fun y => hi y.1))) ⟨r6, r7, r8, r9, k27, ⟨f7, k28, q7⟩, ⟨f8, k29, q8⟩, _, k30, (fun z hz => by
              by_cases y : z = j5
              · rw [y, nI_clamp (by omega), pk_us]; exact ((congrArg b01 (show up3 (rV s) j2 j5 (!(rV s j2 j5)) j2 j5 = !(rV s j2 j5) from up3_s)).trans (by rw [hV2]; rfl)).symm
              · rw [nI_clamp (by omega), pk_un y, q9 z hz]; exact (congrArg b01 (show up3 (rV s) j2 j5 (!(rV s j2 j5)) j2 z = rV s j2 z from up3_n (fun w => y w.2))).symm)⟩)⟩
    · rw [zb_f c4] at e4; subst e4
      refine v_if_ne (tgt := 26) C dX4_waive_12 (by decide) (fun c31 => absurd c31 (by decide)) (fun c31 => ?_)
      have ek : (kIsRQ s (nI j2) q) = 1 := by simp [kIsRQ, inN, c1, c4]
      exact v_throwSW C (TH_37 (i := 288) (tx := "no such test or quarter") (by decide)) hto dX4_waive_15 dX4_waive_18 dX4_waive_19 dX4_waive_22 dX4_waive_25 (Nat.le_of_ble_eq_true rfl) (Nat.le_of_ble_eq_true rfl) ⟨Nat.le_of_ble_eq_true rfl, Nat.le_of_ble_eq_true rfl⟩ ⟨Nat.le_of_ble_eq_true rfl, Nat.le_of_ble_eq_true rfl⟩ ⟨rfl, ⟨ek, rfl⟩⟩
  · rw [zb_f c1] at e1; subst e1
    refine v_if_eq (tgt := 15) C dX4_waive_5 (by decide) (fun c33 => ?_) (fun c33 => absurd c33 (by decide))
    have ek : (kIsRQ s r q) = 1 := by simp [kIsRQ, inN, c1]
    exact v_throwSW C (TH_37 (i := 288) (tx := "no such test or quarter") (by decide)) hto dX4_waive_15 dX4_waive_18 dX4_waive_19 dX4_waive_22 dX4_waive_25 (Nat.le_of_ble_eq_true rfl) (Nat.le_of_ble_eq_true rfl) ⟨Nat.le_of_ble_eq_true rfl, Nat.le_of_ble_eq_true rfl⟩ ⟨Nat.le_of_ble_eq_true rfl, Nat.le_of_ble_eq_true rfl⟩ ⟨rfl, ⟨ek, rfl⟩⟩
set_option maxHeartbeats 4000000 in
set_option maxRecDepth 100000 in
theorem c_X4_use (l : Launch) (hl : l.stackTraces = false) (G : zG) (x : Nat) (g : XGh) (s : ZS) (b q v : Int32) (h : zH) (hi : XI G h g x s) (hw : WFs s)  : zMetX eL l yX4_use cX4_use 5 (some .long) 15 10 200 G [.ref x, .int b, .int q, .int v] h (fun res h2 => (kUse s b q v) = 0 ∧ res = bU s (cl b) + v.toInt64 ∧ XQ G h h2 g x (nUse s b (bU s (cl b) + v.toInt64))) (fun E h2 => h2 = h ∧ (((kUse s b q v) = 1 ∧ E = "java/lang/IndexOutOfBoundsException") ∨ ((kUse s b q v) = 2 ∧ E = "java/lang/IllegalArgumentException") ∨ ((kUse s b q v) = 3 ∧ E = "java/lang/IllegalStateException"))) := by
  refine con_ofX hl RX4 rfl (by decide +kernel) [(0, .ref x), (1, .int b), (2, .int q), (3, .int v)] rfl (Nat.le_of_ble_eq_true rfl) ?_
  intro zp ze zs zm zargs zbelow zmeth zc C hr hin hto hQ
  obtain ⟨⟨hO, hA, ⟨hL0, hL1, hL2, hL3⟩, hS, hN, hT, hR, hB⟩, hV⟩ := id hi
  obtain ⟨mo0, hmo0⟩ := hL0.1.2.1
  obtain ⟨mo1, hmo1⟩ := hL1.1.2.1
  obtain ⟨mo2, hmo2⟩ := hL2.1.2.1
  obtain ⟨mo3, hmo3⟩ := hL3.1.2.1
  obtain ⟨fo, to, qo⟩ := hO.2.2.2
  have eS : (oS s).length = (qS g).length := by rw [hS.2, List.length_map]
  have hw2 : (oS s).length ≤ 8 := hw.1
  have hw7 : oN s ≤ 10 := hw.2.2.1.1
  have hw17 : rN s ≤ 6 := hw.2.2.2.2.1.1
  have hw25 : bN s ≤ 6 := hw.2.2.2.2.2.1
  refine v_ge C (fun hg => ?_)
  refine v_aload_n C 0 rfl dX4_use_0 rfl ?_
  refine v_iload_n C 1 rfl dX4_use_1 rfl ?_
  refine v_callV (rest := []) C (c_X4_isBasket l hl G x (qA g 1 0) (qA g 14 0) (qA g 14 1) (qA g 14 2) (qA g 14 3) (qA g 15 3) ((List.range (bN s)).map (qA g 10)) b h hO.1 hL3.1) K_X4_364 hO.1 rfl rfl (Nat.le_of_ble_eq_true rfl) ⟨Nat.le_of_ble_eq_true rfl, Nat.le_of_ble_eq_true rfl⟩ ⟨Nat.le_of_ble_eq_true rfl, Nat.le_of_ble_eq_true rfl⟩ dX4_use_2 (fun i1 h1 q1 => ?_)
  obtain ⟨e1, rfl⟩ := q1; rw [mr_len] at e1
  by_cases c1 : inN b (bN s)
  · rw [zb_t c1] at e1; subst e1
    obtain ⟨j2, hj2, en2⟩ := inN.nat c1 (by omega)
    subst en2
    have eCb : cl (nI j2) = j2 := cl_nI (by omega)
    obtain ⟨rb, tb⟩ := hB j2 (by omega)
    obtain ⟨hbT, hbF, hbP⟩ := hw.2.2.2.2.2.2.1 j2 (by omega)
    refine v_if_eq (tgt := 15) C dX4_use_5 (by decide) (fun c3 => absurd c3 (by decide)) (fun c3 => ?_)
    refine v_iload_n C 2 rfl dX4_use_8 rfl ?_
    refine v_callS (rest := []) C (c_X4_isQuarter l hl G q h) S_X4_34 rfl rfl (Nat.le_of_ble_eq_true rfl) ⟨Nat.le_of_ble_eq_true rfl, Nat.le_of_ble_eq_true rfl⟩ ⟨Nat.le_of_ble_eq_true rfl, Nat.le_of_ble_eq_true rfl⟩ dX4_use_9 (fun i4 h4 q4 => ?_)
    obtain ⟨e4, rfl⟩ := q4
    by_cases c4 : inN q 20
    · rw [zb_t c4] at e4; subst e4
      obtain ⟨j5, hj5, en5⟩ := inN.nat c4 (by omega)
      subst en5
      have eCq : cl (nI j5) = j5 := cl_nI (by omega)
      refine v_if_ne (tgt := 26) C dX4_use_12 (by decide) (fun c6 => ?_) (fun c6 => absurd c6 (by decide))
      refine v_iload_n C 3 rfl dX4_use_26 rfl ?_
      refine v_iconst (v := 1) C dX4_use_27 (by decide) ?_
      refine v_ldc C KO_X4_45 dX4_use_28 ?_
      refine v_callS (rest := []) C (c_X4_isWithin l hl G v 1 1000000 h) S_X4_46 rfl rfl (Nat.le_of_ble_eq_true rfl) ⟨Nat.le_of_ble_eq_true rfl, Nat.le_of_ble_eq_true rfl⟩ ⟨Nat.le_of_ble_eq_true rfl, Nat.le_of_ble_eq_true rfl⟩ dX4_use_30 (fun i7 h7 q7 => ?_)
      obtain ⟨e7, rfl⟩ := q7
      by_cases c7 : wth v 1 1000000
      · rw [zb_t c7] at e7; subst e7
        refine v_if_ne (tgt := 46) C dX4_use_33 (by decide) (fun c8 => ?_) (fun c8 => absurd c8 (by decide))
        refine v_aload_n C 0 rfl dX4_use_46 rfl ?_
        refine v_get (v := .ref (qA g 14 3)) C F_X4_27 hO.1 rfl dX4_use_47 ?_
        refine v_iload_n C 1 rfl dX4_use_50 rfl ?_
        refine v_callV (rest := []) C (c_Jx4a65c_get_915e3 l hl G (qA g 14 3) (qA g 15 3) ((List.range (bN s)).map (qA g 10)) j2 h hL3.1 (by rw [mr_len]; omega)) K_X4_99 hmo3 rfl rfl (Nat.le_of_ble_eq_true rfl) ⟨Nat.le_of_ble_eq_true rfl, Nat.le_of_ble_eq_true rfl⟩ ⟨Nat.le_of_ble_eq_true rfl, Nat.le_of_ble_eq_true rfl⟩ dX4_use_51 (fun i9 h9 q9 => ?_)
        obtain ⟨e9, rfl⟩ := q9; rw [mr_get (show j2 < (bN s) by omega)] at e9; subst e9
        refine v_chk C CA_X4_359 tb dX4_use_54 ?_
        refine v_astore C [(4, .ref (qA g 10 j2)), (0, .ref x), (1, .int (nI j2)), (2, .int (nI j5)), (3, .int v)] rfl (by decide) dX4_use_57 ?_
        refine v_aload C 0 rfl dX4_use_59 ?_
        refine v_get (v := .long (bU s j2)) C F_X4_373 tb rfl dX4_use_61 ?_
        refine v_iload_n C 4 rfl dX4_use_64 rfl ?_
        refine v_i2l (v := (v : Int32).toInt64) C dX4_use_65 rfl ?_
        refine v_ladd C dX4_use_66 (v_eql (y := ((bU s j2) + (Int32.toInt64 v))) (rfl) ?_)
        refine v_aload C 0 rfl dX4_use_67 ?_
        refine v_iload_n C 3 rfl dX4_use_69 rfl ?_
        refine v_callS (rest := [.long ((bU s j2) + (Int32.toInt64 v))]) C (c_X4_sizeIn l hl G x j2 j5 g s h hi hw (by omega) (by omega)) S_X4_369 rfl rfl (Nat.le_of_ble_eq_true rfl) ⟨Nat.le_of_ble_eq_true rfl, Nat.le_of_ble_eq_true rfl⟩ ⟨Nat.le_of_ble_eq_true rfl, Nat.le_of_ble_eq_true rfl⟩ dX4_use_70 (fun l11 h11 q11 => ?_)
        obtain ⟨e11, rfl⟩ := q11; subst e11
        refine v_lcmp C dX4_use_73 ?_
        refine v_if_le (tgt := 88) C dX4_use_74 (by decide) (fun c12 => ?_) (fun c12 => ?_)
        · have c12 := (lgc_le ((bU s j2) + (Int32.toInt64 v)) (bSize s j2 j5)).mp c12
          refine v_aload C 0 rfl dX4_use_88 ?_
          refine v_dup C dX4_use_90 rfl ?_
          refine v_get (v := .long (bU s j2)) C F_X4_373 tb rfl dX4_use_91 ?_
          refine v_iload_n C 4 rfl dX4_use_94 rfl ?_
          refine v_i2l (v := (v : Int32).toInt64) C dX4_use_95 rfl ?_
          refine v_ladd C dX4_use_96 (v_eql (y := ((bU s j2) + (Int32.toInt64 v))) (rfl) ?_)
          refine v_put C [.int (bF s j2), .ref (qA g 3 (bT s j2)), .int (bP s j2), .long ((bU s j2) + (Int32.toInt64 v))] P_X4_373 tb rfl rfl rfl (Nat.le_of_ble_eq_true rfl) dX4_use_97 (v_nw (fun h14 eh14 => ?_))
          have k15 : h14 x = some (.inr (7, [.ref (qA g 1 0), .ref (qA g 14 0), .ref (qA g 14 1), .ref (qA g 14 2), .ref (qA g 14 3)])) := by rw [eh14, zup_ne _ _ (rne rb hO.2.1 (by simp))]; exact hO.1
          have k16 : h14 (qA g 1 0) = some (.inl (gc G 7, 6, .inr (.inr (.inr (.inr fo))))) := by rw [eh14, zup_ne _ _ (rne rb hO.2.2.1 (by simp))]; exact to
          have k17 : h14 (qA g 14 0) = some (.inr (2, [.int mo0, .ref (qA g 15 0), .int (nI (qS g).length)])) := by rw [eh14, zup_ne _ _ (rne rb hL0.2.1 (by simp))]; exact hmo0
          have k18 : h14 (qA g 14 1) = some (.inr (2, [.int mo1, .ref (qA g 15 1), .int (nI ((List.range (oN s)).map (qA g 3)).length)])) := by rw [eh14, zup_ne _ _ (rne rb hL1.2.1 (by simp))]; exact hmo1
          have k19 : h14 (qA g 14 2) = some (.inr (2, [.int mo2, .ref (qA g 15 2), .int (nI ((List.range (rN s)).map (qA g 6)).length)])) := by rw [eh14, zup_ne _ _ (rne rb hL2.2.1 (by simp))]; exact hmo2
          have k20 : h14 (qA g 14 3) = some (.inr (2, [.int mo3, .ref (qA g 15 3), .int (nI ((List.range (bN s)).map (qA g 10)).length)])) := by rw [eh14, zup_ne _ _ (rne rb hL3.2.1 (by simp))]; exact hmo3
          have k21 : h14 (qA g 10 j2) = some (.inr (3, [.int (bF s j2), .ref (qA g 3 (bT s j2)), .int (bP s j2), .long ((bU s j2) + (Int32.toInt64 v))])) := by rw [eh14]; exact zup_self _ _ _
          refine v_aload C 0 rfl dX4_use_100 ?_
          refine v_get (v := .long ((bU s j2) + (Int32.toInt64 v))) C F_X4_373 k21 rfl dX4_use_102 ?_
          have ek : (kUse s (nI j2) (nI j5) v) = 0 := (if_pos ⟨c1, c4⟩).trans ((if_pos c7).trans (if_neg (by rw [eCb, eCq]; exact Int64.not_lt.mpr c12)))
          exact v_lret C hQ hr (Nat.le_of_ble_eq_true rfl) (Nat.le_of_ble_eq_true rfl) dX4_use_105 ⟨ek, (by rw [eCb]), (by unfold nUse; rw [eCb]; exact XI.bask (j := j2) hi (fun b e hb hr => (zk_put (zk_rf (fun b => b = qA g 10 j2) h) eh14 rfl) b e (fun z => hr (by rw [z]; exact rb)) hb) rfl rfl rfl rfl (fun i hi => up2_n hi) ⟨rb, by show _ = some (Sum.inr (3, [_, _, _, .long (up2 (bU s) j2 _ j2)]) : va_E); rw [up2_s]; exact k21⟩)⟩
        · have c12 := (lgc_le_f ((bU s j2) + (Int32.toInt64 v)) (bSize s j2 j5)).mp c12
          have ek : (kUse s (nI j2) (nI j5) v) = 3 := (if_pos ⟨c1, c4⟩).trans ((if_pos c7).trans (if_pos (by rw [eCb, eCq]; exact Int64.not_le.mp c12)))
          exact v_throwSW C (TH_64 (i := 377) (tx := "more than the basket's size") (by decide)) hto dX4_use_77 dX4_use_80 dX4_use_81 dX4_use_84 dX4_use_87 (Nat.le_of_ble_eq_true rfl) (Nat.le_of_ble_eq_true rfl) ⟨Nat.le_of_ble_eq_true rfl, Nat.le_of_ble_eq_true rfl⟩ ⟨Nat.le_of_ble_eq_true rfl, Nat.le_of_ble_eq_true rfl⟩ ⟨rfl, Or.inr (Or.inr (⟨ek, rfl⟩))⟩
      · rw [zb_f c7] at e7; subst e7
        refine v_if_ne (tgt := 46) C dX4_use_33 (by decide) (fun c23 => absurd c23 (by decide)) (fun c23 => ?_)
        have ek : (kUse s (nI j2) (nI j5) v) = 2 := by simp [kUse, inN, wth, c1, c4, c7]
        exact v_throwS C (TH_50 (i := 52) (tx := "the amount is out of its range") (by decide)) hto dX4_use_36 dX4_use_39 dX4_use_40 dX4_use_42 dX4_use_45 (Nat.le_of_ble_eq_true rfl) (Nat.le_of_ble_eq_true rfl) ⟨Nat.le_of_ble_eq_true rfl, Nat.le_of_ble_eq_true rfl⟩ ⟨Nat.le_of_ble_eq_true rfl, Nat.le_of_ble_eq_true rfl⟩ ⟨rfl, Or.inr (Or.inl ⟨ek, rfl⟩)⟩
    · rw [zb_f c4] at e4; subst e4
      refine v_if_ne (tgt := 26) C dX4_use_12 (by decide) (fun c25 => absurd c25 (by decide)) (fun c25 => ?_)
      have ek : (kUse s (nI j2) q v) = 1 := by simp [kUse, inN, wth, c1, c4]
      exact v_throwSW C (TH_37 (i := 367) (tx := "no such basket or quarter") (by decide)) hto dX4_use_15 dX4_use_18 dX4_use_19 dX4_use_22 dX4_use_25 (Nat.le_of_ble_eq_true rfl) (Nat.le_of_ble_eq_true rfl) ⟨Nat.le_of_ble_eq_true rfl, Nat.le_of_ble_eq_true rfl⟩ ⟨Nat.le_of_ble_eq_true rfl, Nat.le_of_ble_eq_true rfl⟩ ⟨rfl, Or.inl ⟨ek, rfl⟩⟩
  · rw [zb_f c1] at e1; subst e1
    refine v_if_eq (tgt := 15) C dX4_use_5 (by decide) (fun c27 => ?_) (fun c27 => absurd c27 (by decide))
    have ek : (kUse s b q v) = 1 := by simp [kUse, inN, wth, c1]
    exact v_throwSW C (TH_37 (i := 367) (tx := "no such basket or quarter") (by decide)) hto dX4_use_15 dX4_use_18 dX4_use_19 dX4_use_22 dX4_use_25 (Nat.le_of_ble_eq_true rfl) (Nat.le_of_ble_eq_true rfl) ⟨Nat.le_of_ble_eq_true rfl, Nat.le_of_ble_eq_true rfl⟩ ⟨Nat.le_of_ble_eq_true rfl, Nat.le_of_ble_eq_true rfl⟩ ⟨rfl, Or.inl ⟨ek, rfl⟩⟩
set_option maxHeartbeats 4000000 in
set_option maxRecDepth 100000 in
theorem c_X4_refill (l : Launch) (hl : l.stackTraces = false) (G : zG) (x : Nat) (g : XGh) (s : ZS) (b v : Int32) (h : zH) (hi : XI G h g x s) (hw : WFs s)  : zMetX eL l yX4_refill cX4_refill 4 (some .long) 15 10 200 G [.ref x, .int b, .int v] h (fun res h2 => (kRefill s b v) = 0 ∧ res = bU s (cl b) - v.toInt64 ∧ XQ G h h2 g x (nUse s b (bU s (cl b) - v.toInt64))) (fun E h2 => h2 = h ∧ (((kRefill s b v) = 1 ∧ E = "java/lang/IndexOutOfBoundsException") ∨ ((kRefill s b v) = 2 ∧ E = "java/lang/IllegalArgumentException") ∨ ((kRefill s b v) = 3 ∧ E = "java/lang/IllegalStateException"))) := by
  refine con_ofX hl RX4 rfl (by decide +kernel) [(0, .ref x), (1, .int b), (2, .int v)] rfl (Nat.le_of_ble_eq_true rfl) ?_
  intro zp ze zs zm zargs zbelow zmeth zc C hr hin hto hQ
  obtain ⟨⟨hO, hA, ⟨hL0, hL1, hL2, hL3⟩, hS, hN, hT, hR, hB⟩, hV⟩ := id hi
  obtain ⟨mo0, hmo0⟩ := hL0.1.2.1
  obtain ⟨mo1, hmo1⟩ := hL1.1.2.1
  obtain ⟨mo2, hmo2⟩ := hL2.1.2.1
  obtain ⟨mo3, hmo3⟩ := hL3.1.2.1
  obtain ⟨fo, to, qo⟩ := hO.2.2.2
  have eS : (oS s).length = (qS g).length := by rw [hS.2, List.length_map]
  have hw2 : (oS s).length ≤ 8 := hw.1
  have hw7 : oN s ≤ 10 := hw.2.2.1.1
  have hw17 : rN s ≤ 6 := hw.2.2.2.2.1.1
  have hw25 : bN s ≤ 6 := hw.2.2.2.2.2.1
  refine v_ge C (fun hg => ?_)
  refine v_aload_n C 0 rfl dX4_refill_0 rfl ?_
  refine v_iload_n C 1 rfl dX4_refill_1 rfl ?_
  refine v_callV (rest := []) C (c_X4_isBasket l hl G x (qA g 1 0) (qA g 14 0) (qA g 14 1) (qA g 14 2) (qA g 14 3) (qA g 15 3) ((List.range (bN s)).map (qA g 10)) b h hO.1 hL3.1) K_X4_364 hO.1 rfl rfl (Nat.le_of_ble_eq_true rfl) ⟨Nat.le_of_ble_eq_true rfl, Nat.le_of_ble_eq_true rfl⟩ ⟨Nat.le_of_ble_eq_true rfl, Nat.le_of_ble_eq_true rfl⟩ dX4_refill_2 (fun i1 h1 q1 => ?_)
  obtain ⟨e1, rfl⟩ := q1; rw [mr_len] at e1
  by_cases c1 : inN b (bN s)
  · rw [zb_t c1] at e1; subst e1
    obtain ⟨j2, hj2, en2⟩ := inN.nat c1 (by omega)
    subst en2
    have eCb : cl (nI j2) = j2 := cl_nI (by omega)
    obtain ⟨rb, tb⟩ := hB j2 (by omega)
    obtain ⟨hbT, hbF, hbP⟩ := hw.2.2.2.2.2.2.1 j2 (by omega)
    refine v_if_ne (tgt := 19) C dX4_refill_5 (by decide) (fun c3 => ?_) (fun c3 => absurd c3 (by decide))
    refine v_iload_n C 2 rfl dX4_refill_19 rfl ?_
    refine v_iconst (v := 1) C dX4_refill_20 (by decide) ?_
    refine v_ldc C KO_X4_45 dX4_refill_21 ?_
    refine v_callS (rest := []) C (c_X4_isWithin l hl G v 1 1000000 h) S_X4_46 rfl rfl (Nat.le_of_ble_eq_true rfl) ⟨Nat.le_of_ble_eq_true rfl, Nat.le_of_ble_eq_true rfl⟩ ⟨Nat.le_of_ble_eq_true rfl, Nat.le_of_ble_eq_true rfl⟩ dX4_refill_23 (fun i4 h4 q4 => ?_)
    obtain ⟨e4, rfl⟩ := q4
    by_cases c4 : wth v 1 1000000
    · rw [zb_t c4] at e4; subst e4
      refine v_if_ne (tgt := 39) C dX4_refill_26 (by decide) (fun c5 => ?_) (fun c5 => absurd c5 (by decide))
      refine v_aload_n C 0 rfl dX4_refill_39 rfl ?_
      refine v_get (v := .ref (qA g 14 3)) C F_X4_27 hO.1 rfl dX4_refill_40 ?_
      refine v_iload_n C 1 rfl dX4_refill_43 rfl ?_
      refine v_callV (rest := []) C (c_Jx4a65c_get_915e3 l hl G (qA g 14 3) (qA g 15 3) ((List.range (bN s)).map (qA g 10)) j2 h hL3.1 (by rw [mr_len]; omega)) K_X4_99 hmo3 rfl rfl (Nat.le_of_ble_eq_true rfl) ⟨Nat.le_of_ble_eq_true rfl, Nat.le_of_ble_eq_true rfl⟩ ⟨Nat.le_of_ble_eq_true rfl, Nat.le_of_ble_eq_true rfl⟩ dX4_refill_44 (fun i6 h6 q6 => ?_)
      obtain ⟨e6, rfl⟩ := q6; rw [mr_get (show j2 < (bN s) by omega)] at e6; subst e6
      refine v_chk C CA_X4_359 tb dX4_refill_47 ?_
      refine v_astore_n C [(3, .ref (qA g 10 j2)), (0, .ref x), (1, .int (nI j2)), (2, .int v)] rfl (by decide) dX4_refill_50 rfl ?_
      refine v_aload_n C 0 rfl dX4_refill_51 rfl ?_
      refine v_get (v := .long (bU s j2)) C F_X4_373 tb rfl dX4_refill_52 ?_
      refine v_iload_n C 3 rfl dX4_refill_55 rfl ?_
      refine v_i2l (v := (v : Int32).toInt64) C dX4_refill_56 rfl ?_
      refine v_lcmp C dX4_refill_57 ?_
      refine v_if_ge (tgt := 72) C dX4_refill_58 (by decide) (fun c7 => ?_) (fun c7 => ?_)
      · have c7 := (lgc_ge (bU s j2) (Int32.toInt64 v)).mp c7
        refine v_aload_n C 0 rfl dX4_refill_72 rfl ?_
        refine v_dup C dX4_refill_73 rfl ?_
        refine v_get (v := .long (bU s j2)) C F_X4_373 tb rfl dX4_refill_74 ?_
        refine v_iload_n C 3 rfl dX4_refill_77 rfl ?_
        refine v_i2l (v := (v : Int32).toInt64) C dX4_refill_78 rfl ?_
        refine v_lsub C dX4_refill_79 (v_eql (y := ((bU s j2) - (Int32.toInt64 v))) (rfl) ?_)
        refine v_put C [.int (bF s j2), .ref (qA g 3 (bT s j2)), .int (bP s j2), .long ((bU s j2) - (Int32.toInt64 v))] P_X4_373 tb rfl rfl rfl (Nat.le_of_ble_eq_true rfl) dX4_refill_80 (v_nw (fun h9 eh9 => ?_))
        have k10 : h9 x = some (.inr (7, [.ref (qA g 1 0), .ref (qA g 14 0), .ref (qA g 14 1), .ref (qA g 14 2), .ref (qA g 14 3)])) := by rw [eh9, zup_ne _ _ (rne rb hO.2.1 (by simp))]; exact hO.1
        have k11 : h9 (qA g 1 0) = some (.inl (gc G 7, 6, .inr (.inr (.inr (.inr fo))))) := by rw [eh9, zup_ne _ _ (rne rb hO.2.2.1 (by simp))]; exact to
        have k12 : h9 (qA g 14 0) = some (.inr (2, [.int mo0, .ref (qA g 15 0), .int (nI (qS g).length)])) := by rw [eh9, zup_ne _ _ (rne rb hL0.2.1 (by simp))]; exact hmo0
        have k13 : h9 (qA g 14 1) = some (.inr (2, [.int mo1, .ref (qA g 15 1), .int (nI ((List.range (oN s)).map (qA g 3)).length)])) := by rw [eh9, zup_ne _ _ (rne rb hL1.2.1 (by simp))]; exact hmo1
        have k14 : h9 (qA g 14 2) = some (.inr (2, [.int mo2, .ref (qA g 15 2), .int (nI ((List.range (rN s)).map (qA g 6)).length)])) := by rw [eh9, zup_ne _ _ (rne rb hL2.2.1 (by simp))]; exact hmo2
        have k15 : h9 (qA g 14 3) = some (.inr (2, [.int mo3, .ref (qA g 15 3), .int (nI ((List.range (bN s)).map (qA g 10)).length)])) := by rw [eh9, zup_ne _ _ (rne rb hL3.2.1 (by simp))]; exact hmo3
        have k16 : h9 (qA g 10 j2) = some (.inr (3, [.int (bF s j2), .ref (qA g 3 (bT s j2)), .int (bP s j2), .long ((bU s j2) - (Int32.toInt64 v))])) := by rw [eh9]; exact zup_self _ _ _
        refine v_aload_n C 0 rfl dX4_refill_83 rfl ?_
        refine v_get (v := .long ((bU s j2) - (Int32.toInt64 v))) C F_X4_373 k16 rfl dX4_refill_84 ?_
        have ek : (kRefill s (nI j2) v) = 0 := (if_pos c1).trans ((if_pos c4).trans (if_neg (by rw [eCb]; exact Int64.not_lt.mpr c7)))
        exact v_lret C hQ hr (Nat.le_of_ble_eq_true rfl) (Nat.le_of_ble_eq_true rfl) dX4_refill_87 ⟨ek, (by rw [eCb]), (by unfold nUse; rw [eCb]; exact XI.bask (j := j2) hi (fun b e hb hr => (zk_put (zk_rf (fun b => b = qA g 10 j2) h) eh9 rfl) b e (fun z => hr (by rw [z]; exact rb)) hb) rfl rfl rfl rfl (fun i hi => up2_n hi) ⟨rb, by show _ = some (Sum.inr (3, [_, _, _, .long (up2 (bU s) j2 _ j2)]) : va_E); rw [up2_s]; exact k16⟩)⟩
      · have c7 := (lgc_ge_f (bU s j2) (Int32.toInt64 v)).mp c7
        have ek : (kRefill s (nI j2) v) = 3 := (if_pos c1).trans ((if_pos c4).trans (if_pos (by rw [eCb]; exact Int64.not_le.mp c7)))
        exact v_throwSW C (TH_64 (i := 381) (tx := "less is used of the basket") (by decide)) hto dX4_refill_61 dX4_refill_64 dX4_refill_65 dX4_refill_68 dX4_refill_71 (Nat.le_of_ble_eq_true rfl) (Nat.le_of_ble_eq_true rfl) ⟨Nat.le_of_ble_eq_true rfl, Nat.le_of_ble_eq_true rfl⟩ ⟨Nat.le_of_ble_eq_true rfl, Nat.le_of_ble_eq_true rfl⟩ ⟨rfl, Or.inr (Or.inr (⟨ek, rfl⟩))⟩
    · rw [zb_f c4] at e4; subst e4
      refine v_if_ne (tgt := 39) C dX4_refill_26 (by decide) (fun c18 => absurd c18 (by decide)) (fun c18 => ?_)
      have ek : (kRefill s (nI j2) v) = 2 := by simp [kRefill, inN, wth, c1, c4]
      exact v_throwS C (TH_50 (i := 52) (tx := "the amount is out of its range") (by decide)) hto dX4_refill_29 dX4_refill_32 dX4_refill_33 dX4_refill_35 dX4_refill_38 (Nat.le_of_ble_eq_true rfl) (Nat.le_of_ble_eq_true rfl) ⟨Nat.le_of_ble_eq_true rfl, Nat.le_of_ble_eq_true rfl⟩ ⟨Nat.le_of_ble_eq_true rfl, Nat.le_of_ble_eq_true rfl⟩ ⟨rfl, Or.inr (Or.inl ⟨ek, rfl⟩)⟩
  · rw [zb_f c1] at e1; subst e1
    refine v_if_ne (tgt := 19) C dX4_refill_5 (by decide) (fun c20 => absurd c20 (by decide)) (fun c20 => ?_)
    have ek : (kRefill s b v) = 1 := by simp [kRefill, inN, wth, c1]
    exact v_throwSW C (TH_37 (i := 379) (tx := "no such basket") (by decide)) hto dX4_refill_8 dX4_refill_11 dX4_refill_12 dX4_refill_15 dX4_refill_18 (Nat.le_of_ble_eq_true rfl) (Nat.le_of_ble_eq_true rfl) ⟨Nat.le_of_ble_eq_true rfl, Nat.le_of_ble_eq_true rfl⟩ ⟨Nat.le_of_ble_eq_true rfl, Nat.le_of_ble_eq_true rfl⟩ ⟨rfl, Or.inl ⟨ek, rfl⟩⟩
set_option maxHeartbeats 4000000 in
set_option maxRecDepth 100000 in
theorem c_X4_amount (l : Launch) (hl : l.stackTraces = false) (G : zG) (x : Nat) (g : XGh) (s : ZS) (a q v : Int32) (h : zH) (hi : XI G h g x s) (hw : WFs s)  : zMetX eI l yX4_amount cX4_amount 6 (some .int) 31 10 200 G [.ref x, .int a, .int q, .int v] h (fun res h2 => (kAmount a q v) = 0 ∧ res = oA s (cl a) (cl q) ∧ XQ G h h2 g x (nAmount s a q v)) (fun E h2 => h2 = h ∧ (((kAmount a q v) = 1 ∧ E = "java/lang/IndexOutOfBoundsException") ∨ ((kAmount a q v) = 2 ∧ E = "java/lang/IllegalArgumentException"))) := by
  refine con_ofX hl RX4 rfl (by decide +kernel) [(0, .ref x), (1, .int a), (2, .int q), (3, .int v)] rfl (Nat.le_of_ble_eq_true rfl) ?_
  intro zp ze zs zm zargs zbelow zmeth zc C hr hin hto hQ
  obtain ⟨⟨hO, hA, ⟨hL0, hL1, hL2, hL3⟩, hS, hN, hT, hR, hB⟩, hV⟩ := id hi
  obtain ⟨mo0, hmo0⟩ := hL0.1.2.1
  obtain ⟨mo1, hmo1⟩ := hL1.1.2.1
  obtain ⟨mo2, hmo2⟩ := hL2.1.2.1
  obtain ⟨mo3, hmo3⟩ := hL3.1.2.1
  obtain ⟨fo, to, qo⟩ := hO.2.2.2
  have eS : (oS s).length = (qS g).length := by rw [hS.2, List.length_map]
  have hw2 : (oS s).length ≤ 8 := hw.1
  have hw7 : oN s ≤ 10 := hw.2.2.1.1
  have hw17 : rN s ≤ 6 := hw.2.2.2.2.1.1
  have hw25 : bN s ≤ 6 := hw.2.2.2.2.2.1
  refine v_ge C (fun hg => ?_)
  refine v_iload_n C 1 rfl dX4_amount_0 rfl ?_
  refine v_callS (rest := []) C (c_X4_isAccount l hl G a h) S_X4_30 rfl rfl (Nat.le_of_ble_eq_true rfl) ⟨Nat.le_of_ble_eq_true rfl, Nat.le_of_ble_eq_true rfl⟩ ⟨Nat.le_of_ble_eq_true rfl, Nat.le_of_ble_eq_true rfl⟩ dX4_amount_1 (fun i1 h1 q1 => ?_)
  obtain ⟨e1, rfl⟩ := q1
  by_cases c1 : inN a 6
  · rw [zb_t c1] at e1; subst e1
    obtain ⟨j2, hj2, en2⟩ := inN.nat c1 (by omega)
    subst en2
    have eCa : cl (nI j2) = j2 := cl_nI (by omega)
    obtain ⟨rA, fA, tA, qA2⟩ := hA j2 (by omega)
    refine v_if_eq (tgt := 14) C dX4_amount_4 (by decide) (fun c3 => absurd c3 (by decide)) (fun c3 => ?_)
    refine v_iload_n C 2 rfl dX4_amount_7 rfl ?_
    refine v_callS (rest := []) C (c_X4_isQuarter l hl G q h) S_X4_34 rfl rfl (Nat.le_of_ble_eq_true rfl) ⟨Nat.le_of_ble_eq_true rfl, Nat.le_of_ble_eq_true rfl⟩ ⟨Nat.le_of_ble_eq_true rfl, Nat.le_of_ble_eq_true rfl⟩ dX4_amount_8 (fun i4 h4 q4 => ?_)
    obtain ⟨e4, rfl⟩ := q4
    by_cases c4 : inN q 20
    · rw [zb_t c4] at e4; subst e4
      obtain ⟨j5, hj5, en5⟩ := inN.nat c4 (by omega)
      subst en5
      have eCq : cl (nI j5) = j5 := cl_nI (by omega)
      refine v_if_ne (tgt := 24) C dX4_amount_11 (by decide) (fun c6 => ?_) (fun c6 => absurd c6 (by decide))
      refine v_iload_n C 3 rfl dX4_amount_24 rfl ?_
      refine v_ldc C KO_X4_44 dX4_amount_25 ?_
      refine v_ldc C KO_X4_45 dX4_amount_27 ?_
      refine v_callS (rest := []) C (c_X4_isWithin l hl G v (-1000000) 1000000 h) S_X4_46 rfl rfl (Nat.le_of_ble_eq_true rfl) ⟨Nat.le_of_ble_eq_true rfl, Nat.le_of_ble_eq_true rfl⟩ ⟨Nat.le_of_ble_eq_true rfl, Nat.le_of_ble_eq_true rfl⟩ dX4_amount_29 (fun i7 h7 q7 => ?_)
      obtain ⟨e7, rfl⟩ := q7
      by_cases c7 : wth v (-1000000) 1000000
      · rw [zb_t c7] at e7; subst e7
        refine v_if_ne (tgt := 45) C dX4_amount_32 (by decide) (fun c8 => ?_) (fun c8 => absurd c8 (by decide))
        refine v_aload_n C 0 rfl dX4_amount_45 rfl ?_
        refine v_get (v := .ref (qA g 1 0)) C F_X4_11 hO.1 rfl dX4_amount_46 ?_
        refine v_iload_n C 1 rfl dX4_amount_49 rfl ?_
        refine v_aald C 7 rfl rfl to (vpin (show j2 < 6 by omega) (by decide)) dX4_amount_50 ?_
        rw [nI_clamp (show j2 < 2 ^ 31 by omega), qo j2 (by omega)]
        refine v_iload_n C 2 rfl dX4_amount_51 rfl ?_
        refine v_lald C tA (vpin (show j5 < 20 by omega) (by decide)) dX4_amount_52 (v_eql (y := (oAL s j2 j5)) ((congrArg fA (nI_clamp (show j5 < 2 ^ 31 by omega))).trans (qA2 j5 (by omega))) ?_)
        refine v_lstore C [(4, .long (oAL s j2 j5)), (0, .ref x), (1, .int (nI j2)), (2, .int (nI j5)), (3, .int v)] rfl (by decide) dX4_amount_53 ?_
        refine v_aload_n C 1 rfl dX4_amount_55 rfl ?_
        refine v_get (v := .ref (qA g 1 0)) C F_X4_11 hO.1 rfl dX4_amount_56 ?_
        refine v_iload_n C 2 rfl dX4_amount_59 rfl ?_
        refine v_aald C 7 rfl rfl to (vpin (show j2 < 6 by omega) (by decide)) dX4_amount_60 ?_
        rw [nI_clamp (show j2 < 2 ^ 31 by omega), qo j2 (by omega)]
        refine v_iload_n C 3 rfl dX4_amount_61 rfl ?_
        refine v_iload_n C 4 rfl dX4_amount_62 rfl ?_
        refine v_i2l (v := (v : Int32).toInt64) C dX4_amount_63 rfl ?_
        refine v_last C tA (vpin (by omega) (by decide)) dX4_amount_64 (v_nw (fun h9 eh9 => ?_))
        have k10 : h9 x = some (.inr (7, [.ref (qA g 1 0), .ref (qA g 14 0), .ref (qA g 14 1), .ref (qA g 14 2), .ref (qA g 14 3)])) := by rw [eh9, zup_ne _ _ (rne rA hO.2.1 (by simp))]; exact hO.1
        have k11 : h9 (qA g 1 0) = some (.inl (gc G 7, 6, .inr (.inr (.inr (.inr fo))))) := by rw [eh9, zup_ne _ _ (rne rA hO.2.2.1 (by simp))]; exact to
        have k12 : h9 (qA g 14 0) = some (.inr (2, [.int mo0, .ref (qA g 15 0), .int (nI (qS g).length)])) := by rw [eh9, zup_ne _ _ (rne rA hL0.2.1 (by simp))]; exact hmo0
        have k13 : h9 (qA g 14 1) = some (.inr (2, [.int mo1, .ref (qA g 15 1), .int (nI ((List.range (oN s)).map (qA g 3)).length)])) := by rw [eh9, zup_ne _ _ (rne rA hL1.2.1 (by simp))]; exact hmo1
        have k14 : h9 (qA g 14 2) = some (.inr (2, [.int mo2, .ref (qA g 15 2), .int (nI ((List.range (rN s)).map (qA g 6)).length)])) := by rw [eh9, zup_ne _ _ (rne rA hL2.2.1 (by simp))]; exact hmo2
        have k15 : h9 (qA g 14 3) = some (.inr (2, [.int mo3, .ref (qA g 15 3), .int (nI ((List.range (bN s)).map (qA g 10)).length)])) := by rw [eh9, zup_ne _ _ (rne rA hL3.2.1 (by simp))]; exact hmo3
        have k16 : h9 (qA g 2 j2) = some (.inl (gc G 1, 20, .inr (.inl (vp_updL fA (nI j5).toNatClampNeg (Int32.toInt64 v))))) := by rw [eh9]; exact zup_self _ _ _
        refine v_aload_n C 1 rfl dX4_amount_65 rfl ?_
        have hks : kAmount (nI j2) (nI j5) v = 0 := by simp [kAmount, inN, wth, c1, c4, c7]
        have hw2 : WFs (nAmount s (nI j2) (nI j5) v) := wf_amount hw hks
        obtain ⟨hxw, hxf⟩ := XW.amount (a := j2) (A2 := up3 (oA s) (cl (nI j2)) (cl (nI j5)) v) hi (fun b e hb hr => (zk_put (zk_rf (fun b => b = qA g 2 j2) h) eh9 rfl) b e (fun z => hr (by rw [z]; exact rA)) hb) (fun i hi => funext (fun z => up3_n (fun y => hi (y.1.trans eCa)))) ⟨_, k16, fun z hz => by
            rw [eCa, eCq]
            by_cases y : z = j5
            · rw [y, nI_clamp (by omega), pk_uLs]; exact (congrArg Int32.toInt64 (show up3 (oA s) j2 j5 v j2 j5 = v from up3_s)).symm
            · rw [nI_clamp (by omega), pk_uLn y, qA2 z hz]; exact (congrArg Int32.toInt64 (show up3 (oA s) j2 j5 v j2 z = oA s j2 z from up3_n (fun w => y w.2))).symm⟩
        refine v_callV (rest := []) C (c_X4_settleTerms l hl G x g (nAmount s (nI j2) (nI j5) v) h9 hxw hw2) K_X4_55 k10 rfl rfl (Nat.le_of_ble_eq_true rfl) ⟨Nat.le_of_ble_eq_true rfl, Nat.le_of_ble_eq_true rfl⟩ ⟨Nat.le_of_ble_eq_true rfl, Nat.le_of_ble_eq_true rfl⟩ dX4_amount_66 (fun _ h17 w17 => ?_)
        obtain ⟨sfz, xvz⟩ := w17
        refine v_lload C 0 rfl dX4_amount_69 ?_
        refine v_l2i C dX4_amount_71 ((Int32.toInt32_toInt64 _)) ?_
        have ek : (kAmount (nI j2) (nI j5) v) = 0 := by simp [kAmount, inN, wth, c1, c4, c7]
        exact v_iret C hQ hr rfl (Nat.le_of_ble_eq_true rfl) (Nat.le_of_ble_eq_true rfl) dX4_amount_72 ⟨ek, (by rw [eCa, eCq]), ⟨g, XW.settle hxw sfz xvz, hxf.trans sfz.fr0⟩⟩
      · rw [zb_f c7] at e7; subst e7
        refine v_if_ne (tgt := 45) C dX4_amount_32 (by decide) (fun c19 => absurd c19 (by decide)) (fun c19 => ?_)
        have ek : (kAmount (nI j2) (nI j5) v) = 2 := by simp [kAmount, inN, wth, c1, c4, c7]
        exact v_throwS C (TH_50 (i := 52) (tx := "the amount is out of its range") (by decide)) hto dX4_amount_35 dX4_amount_38 dX4_amount_39 dX4_amount_41 dX4_amount_44 (Nat.le_of_ble_eq_true rfl) (Nat.le_of_ble_eq_true rfl) ⟨Nat.le_of_ble_eq_true rfl, Nat.le_of_ble_eq_true rfl⟩ ⟨Nat.le_of_ble_eq_true rfl, Nat.le_of_ble_eq_true rfl⟩ ⟨rfl, Or.inr (⟨ek, rfl⟩)⟩
    · rw [zb_f c4] at e4; subst e4
      refine v_if_ne (tgt := 24) C dX4_amount_11 (by decide) (fun c21 => absurd c21 (by decide)) (fun c21 => ?_)
      have ek : (kAmount (nI j2) q v) = 1 := by simp [kAmount, inN, wth, c1, c4]
      exact v_throwS C (TH_37 (i := 39) (tx := "no such account or quarter") (by decide)) hto dX4_amount_14 dX4_amount_17 dX4_amount_18 dX4_amount_20 dX4_amount_23 (Nat.le_of_ble_eq_true rfl) (Nat.le_of_ble_eq_true rfl) ⟨Nat.le_of_ble_eq_true rfl, Nat.le_of_ble_eq_true rfl⟩ ⟨Nat.le_of_ble_eq_true rfl, Nat.le_of_ble_eq_true rfl⟩ ⟨rfl, Or.inl ⟨ek, rfl⟩⟩
  · rw [zb_f c1] at e1; subst e1
    refine v_if_eq (tgt := 14) C dX4_amount_4 (by decide) (fun c23 => ?_) (fun c23 => absurd c23 (by decide))
    have ek : (kAmount a q v) = 1 := by simp [kAmount, inN, wth, c1]
    exact v_throwS C (TH_37 (i := 39) (tx := "no such account or quarter") (by decide)) hto dX4_amount_14 dX4_amount_17 dX4_amount_18 dX4_amount_20 dX4_amount_23 (Nat.le_of_ble_eq_true rfl) (Nat.le_of_ble_eq_true rfl) ⟨Nat.le_of_ble_eq_true rfl, Nat.le_of_ble_eq_true rfl⟩ ⟨Nat.le_of_ble_eq_true rfl, Nat.le_of_ble_eq_true rfl⟩ ⟨rfl, Or.inl ⟨ek, rfl⟩⟩

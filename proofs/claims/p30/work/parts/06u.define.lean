section
variable {G : zG} {h h2 B W : zH} {g : XGh}
theorem XL.st {j k ar : Nat} {L L2 : List Nat} (hx : XL G h g j L) (hy : XL G h g k L2) (hg : ∀ b e, h b = some e → b ≠ gs G 0) (st : zSt h h2 (qA g 14 j) (qA g 15 j) ar) (hjk : k ≠ j) : zAL G h2 (qA g 14 k) (qA g 15 k) L2 := by
  have h1 : ∀ e, h (qA g 14 k) = some e → h2 (qA g 14 k) = some e := fun e he => st_keep hx hg st _ _ he (by rw [hy.2.1]; exact ⟨p15 hjk, fun z => by cases z⟩)
  rcases hy.2.2 with z | ⟨z, z2⟩
  · exact hy.1.fr h1 (fun e he => st_keep hx hg st _ _ he (by rw [z]; exact ⟨fun y => (by cases y), p15 hjk⟩))
  · subst z; exact hy.1.nil (ar2 := 0) z2 h1
theorem al_st {j k ar : Nat} {L L2 L3 : List Nat} (hx : XL G h g j L) (hy : XL G h g k L2) (hne : L2 ≠ []) (hgW : ∀ b e, W b = some e → b ≠ gs G 0) (al : zAL G W (qA g 14 k) (qA g 15 k) L3) (st : zSt W h2 (qA g 14 j) (qA g 15 j) ar) (hjk : k ≠ j) : zAL G h2 (qA g 14 k) (qA g 15 k) L3 := by
  have n : ∀ b e, W b = some e → (qR g b = (14, k) ∨ qR g b = (15, k)) → h2 b = some e := fun b e hb hr => st.1 b e (fun z => by
    rcases z with z | z
    · rw [z, hx.2.1] at hr; exact hr.elim (fun y => p15 hjk.symm y) (fun y => by cases y)
    · rcases hx.2.2 with y | ⟨-, y⟩
      · rw [z, y] at hr; exact hr.elim (fun y => by cases y) (fun y => p15 hjk.symm y)
      · exact hgW b e hb (z.trans y)) hb
  refine al.fr (fun e he => n _ e he (Or.inl hy.2.1)) (fun e he => n _ e he (Or.inr ?_))
  rcases hy.2.2 with y | ⟨y, -⟩
  · exact y
  · exact absurd y hne
theorem T4k {L0 L1 : List Nat} {ar0 ar : Nat} (hL0 : XL G h g 0 L0) (hL1 : XL G h g 1 L1) (hg : ∀ b e, h b = some e → b ≠ gs G 0) (zt : zSt h B (qA g 14 0) (qA g 15 0) ar0) (kp : zKp (fun _ => False) B W) (zs : zSt W h2 (qA g 14 1) (qA g 15 1) ar) : ∀ b e, h b = some e → T4 (qR g b) → h2 b = some e := fun b e hb ⟨t1, t2, t3, t4⟩ => zs.1 b e (fun z => by
  rcases z with z | z
  · exact t3 (by rw [z]; exact hL1.2.1)
  · rcases hL1.2.2 with y | ⟨-, y⟩
    · exact t4 (by rw [z]; exact y)
    · exact hg b e hb (z.trans y)) (kp b e id (st_keep hL0 hg zt b e hb ⟨t1, t2⟩))
end
set_option maxHeartbeats 4000000 in
set_option maxRecDepth 100000 in
theorem c_X4_define (l : Launch) (hl : l.stackTraces = false) (G : zG) (x : Nat) (g : XGh) (s : ZS)  (h : zH) (hi : XI G h g x s) (hw : WFs s)  : zMetX eI l yX4_define cX4_define 3 (some .int) 31 20 9000 G [.ref x] h (fun res h2 => (kDefine s) = 0 ∧ res = nI (oN s) ∧ XQ G h h2 g x (nDefine s)) (fun E h2 => h2 = h ∧ (((kDefine s) = 1 ∧ E = "java/lang/IllegalStateException"))) := by
  refine con_ofX hl RX4 rfl (by decide +kernel) [(0, .ref x)] rfl (Nat.le_of_ble_eq_true rfl) ?_
  intro zp ze zs zm zargs zbelow zmeth zc C hr hin hto hQ
  obtain ⟨⟨hO, hA, ⟨hL0, hL1, hL2, hL3⟩, hS, hN, hT, hR, hB⟩, hV⟩ := id hi
  obtain ⟨mo0, hmo0⟩ := hL0.1.2.1
  obtain ⟨mo1, hmo1⟩ := hL1.1.2.1
  obtain ⟨mo2, hmo2⟩ := hL2.1.2.1
  obtain ⟨mo3, hmo3⟩ := hL3.1.2.1
  obtain ⟨fo, to, qo⟩ := hO.2.2.2
  have eS : (oS s).length = (qS g).length := by rw [hS.2, List.length_map]
  have hw2 : (oS s).length ≤ 8 := hw.1
  have hw7 : oN s ≤ 10 := hw.2.2.1.1
  have hw17 : rN s ≤ 6 := hw.2.2.2.2.1.1
  have hw25 : bN s ≤ 6 := hw.2.2.2.2.2.1
  refine v_ge C (fun hg => ?_)
  refine v_aload_n C 0 rfl dX4_define_0 rfl ?_
  refine v_get (v := .ref (qA g 14 0)) C F_X4_17 hO.1 rfl dX4_define_1 ?_
  refine v_callV (rest := []) C (c_Jx4a65c_size_8abf5 l hl G (qA g 14 0) (qA g 15 0) (qS g) h hL0.1) K_X4_60 hmo0 rfl rfl (Nat.le_of_ble_eq_true rfl) ⟨Nat.le_of_ble_eq_true rfl, Nat.le_of_ble_eq_true rfl⟩ ⟨Nat.le_of_ble_eq_true rfl, Nat.le_of_ble_eq_true rfl⟩ dX4_define_4 (fun i1 h1 q1 => ?_)
  obtain ⟨e1, rfl⟩ := q1; subst e1
  refine v_istore_n C [(1, .int (nI (qS g).length)), (0, .ref x)] rfl (by decide) dX4_define_7 rfl ?_
  refine v_iload_n C 0 rfl dX4_define_8 rfl ?_
  refine v_if_eq (tgt := 24) C dX4_define_9 (by decide) (fun c2 => ?_) (fun c2 => ?_)
  · have c2 := (nk_eq (a := (qS g).length) 0 (by decide) (by omega) (by decide)).mp c2
    have z3 : (oS s).length = 0 := by omega
    have ek : (kDefine s) = 1 := by simp [kDefine, inN, wth, z3]
    exact v_throwS C (TH_64 (i := 190) (tx := "no formula, or too many terms") (by decide)) hto dX4_define_24 dX4_define_27 dX4_define_28 dX4_define_30 dX4_define_33 (Nat.le_of_ble_eq_true rfl) (Nat.le_of_ble_eq_true rfl) ⟨Nat.le_of_ble_eq_true rfl, Nat.le_of_ble_eq_true rfl⟩ ⟨Nat.le_of_ble_eq_true rfl, Nat.le_of_ble_eq_true rfl⟩ ⟨rfl, ⟨ek, rfl⟩⟩
  · have c2 := (nk_eq_f (a := (qS g).length) 0 (by decide) (by omega) (by decide)).mp c2
    have z5 : ¬ (oS s).length = 0 := by omega
    refine v_aload_n C 1 rfl dX4_define_12 rfl ?_
    refine v_get (v := .ref (qA g 14 1)) C F_X4_21 hO.1 rfl dX4_define_13 ?_
    refine v_callV (rest := []) C (c_Jx4a65c_size_8abf5 l hl G (qA g 14 1) (qA g 15 1) ((List.range (oN s)).map (qA g 3)) h hL1.1) K_X4_60 hmo1 rfl rfl (Nat.le_of_ble_eq_true rfl) ⟨Nat.le_of_ble_eq_true rfl, Nat.le_of_ble_eq_true rfl⟩ ⟨Nat.le_of_ble_eq_true rfl, Nat.le_of_ble_eq_true rfl⟩ dX4_define_16 (fun i6 h6 q6 => ?_)
    obtain ⟨e6, rfl⟩ := q6; subst e6
    refine v_eqi (congrArg nI mr_len) ?_
    refine v_bipush (v := 10) C dX4_define_19 (by decide) ?_
    refine v_icmp_lt (tgt := 34) C dX4_define_21 (by decide) (fun c7 => ?_) (fun c7 => ?_)
    · have c7 := (nk_lt (a := (oN s)) 10 (by decide) (by omega) (by decide)).mp c7
      have z8 : ¬ oN s = 10 := by omega
      obtain ⟨b2, eb2⟩ : ∃ z, z = (qS g).getD ((qS g).length - 1) 0 := ⟨_, rfl⟩
      have hrb2 : qR g b2 = (11, 0) := hS.1 _ (by rw [eb2]; exact getD_memN (by omega))
      obtain ⟨u1b2, u2b2, u3b2, u4b2, ⟨⟨gfb2, x1b2, x2b2, x3b2, x4b2, x5b2⟩, y1b2, y2b2⟩, kdb2, ppb2, cab2, cbb2, hcb2, -⟩ := hN _ hrb2
      have et1 : top1 s = (qT g b2, qL g b2) := by unfold top1; rw [eS, eb2]; exact stk_get hS (by omega)
      refine v_aload_n C 1 rfl dX4_define_34 rfl ?_
      refine v_get (v := .ref (qA g 14 0)) C F_X4_17 hO.1 rfl dX4_define_35 ?_
      refine v_iload_n C 0 rfl dX4_define_38 rfl ?_
      refine v_iconst (v := 1) C dX4_define_39 (by decide) ?_
      refine v_isub C dX4_define_40 (v_eqi (nI_sbk (a := (qS g).length) 1 (by decide) (by omega)) ?_)
      refine v_callV (rest := []) C (c_Jx4a65c_remove_915e3 l hl G (qA g 14 0) (qA g 15 0) (qS g) h hL0.1 (by omega)) K_X4_125 hmo0 rfl rfl (Nat.le_of_ble_eq_true rfl) ⟨Nat.le_of_ble_eq_true rfl, Nat.le_of_ble_eq_true rfl⟩ ⟨Nat.le_of_ble_eq_true rfl, Nat.le_of_ble_eq_true rfl⟩ dX4_define_41 (fun i10 h10 w10 => ?_)
      obtain ⟨e10, ar10, al10, zs10, ea10⟩ := w10; subst ea10
      rw [← eb2] at e10; have ey10 := e10.symm; subst ey10
      have zt10 := zs10
      have k11 : h10 x = some (.inr (7, [.ref (qA g 1 0), .ref (qA g 14 0), .ref (qA g 14 1), .ref (qA g 14 2), .ref (qA g 14 3)])) := st_keep hL0 hg zt10 _ _ hO.1 ⟨by rw [hO.2.1]; simp, by rw [hO.2.1]; simp⟩
      have k12 : h10 (qA g 1 0) = some (.inl (gc G 7, 6, .inr (.inr (.inr (.inr fo))))) := st_keep hL0 hg zt10 _ _ to ⟨by rw [hO.2.2.1]; simp, by rw [hO.2.2.1]; simp⟩
      have k13 : h10 (qA g 14 1) = some (.inr (2, [.int mo1, .ref (qA g 15 1), .int (nI ((List.range (oN s)).map (qA g 3)).length)])) := st_keep hL0 hg zt10 _ _ hmo1 ⟨by rw [hL1.2.1]; simp, by rw [hL1.2.1]; simp⟩
      have k14 : h10 (qA g 14 2) = some (.inr (2, [.int mo2, .ref (qA g 15 2), .int (nI ((List.range (rN s)).map (qA g 6)).length)])) := st_keep hL0 hg zt10 _ _ hmo2 ⟨by rw [hL2.2.1]; simp, by rw [hL2.2.1]; simp⟩
      have k15 : h10 (qA g 14 3) = some (.inr (2, [.int mo3, .ref (qA g 15 3), .int (nI ((List.range (bN s)).map (qA g 10)).length)])) := st_keep hL0 hg zt10 _ _ hmo3 ⟨by rw [hL3.2.1]; simp, by rw [hL3.2.1]; simp⟩
      have k16 : h10 b2 = some (.inr (4, [.int (nI kdb2), .int (nI ppb2), cab2, cbb2, .int (nI (qL g b2)), .int (gI (gtk (qT g b2))), .ref (qN g b2 1), .ref (qN g b2 0)])) := st_keep hL0 hg zt10 _ _ hcb2 ⟨by rw [hrb2]; simp, by rw [hrb2]; simp⟩
      have k17 : h10 (qN g b2 1) = some (.inr (0, [.ref (qN g b2 2), .int 0, .int 0, .int 0])) := st_keep hL0 hg zt10 _ _ x1b2 ⟨by rw [y1b2]; simp, by rw [y1b2]; simp⟩
      have k18 : h10 (qN g b2 2) = some (.inl (gc G 2, (txtOf (qT g b2)).length, .inl gfb2)) := st_keep hL0 hg zt10 _ _ x2b2 ⟨by rw [y2b2]; simp, by rw [y2b2]; simp⟩
      obtain ⟨mm10, ml10⟩ := al10.2.1
      refine v_chk C CA_X4_69 k16 dX4_define_44 ?_
      refine v_astore_n C [(2, .ref b2), (1, .int (nI (qS g).length)), (0, .ref x)] rfl (by decide) dX4_define_47 rfl ?_
      refine v_aload_n C 2 rfl dX4_define_48 rfl ?_
      refine v_get (v := .ref (qA g 14 1)) C F_X4_21 k11 rfl dX4_define_49 ?_
      refine v_new C N_X4_103 (Nat.le_of_ble_eq_true rfl) (Nat.le_of_ble_eq_true rfl) dX4_define_52 (fun q19 gq19 nq19 => v_nw (fun h19 eh19 => ?_))
      have k20 : h19 x = some (.inr (7, [.ref (qA g 1 0), .ref (qA g 14 0), .ref (qA g 14 1), .ref (qA g 14 2), .ref (qA g 14 3)])) := by rw [eh19, zup_ne _ _ (zne_new nq19 k11)]; exact k11
      have k21 : h19 (qA g 1 0) = some (.inl (gc G 7, 6, .inr (.inr (.inr (.inr fo))))) := by rw [eh19, zup_ne _ _ (zne_new nq19 k12)]; exact k12
      have k22 : h19 (qA g 14 1) = some (.inr (2, [.int mo1, .ref (qA g 15 1), .int (nI ((List.range (oN s)).map (qA g 3)).length)])) := by rw [eh19, zup_ne _ _ (zne_new nq19 k13)]; exact k13
      have k23 : h19 (qA g 14 2) = some (.inr (2, [.int mo2, .ref (qA g 15 2), .int (nI ((List.range (rN s)).map (qA g 6)).length)])) := by rw [eh19, zup_ne _ _ (zne_new nq19 k14)]; exact k14
      have k24 : h19 (qA g 14 3) = some (.inr (2, [.int mo3, .ref (qA g 15 3), .int (nI ((List.range (bN s)).map (qA g 10)).length)])) := by rw [eh19, zup_ne _ _ (zne_new nq19 k15)]; exact k15
      have k25 : h19 b2 = some (.inr (4, [.int (nI kdb2), .int (nI ppb2), cab2, cbb2, .int (nI (qL g b2)), .int (gI (gtk (qT g b2))), .ref (qN g b2 1), .ref (qN g b2 0)])) := by rw [eh19, zup_ne _ _ (zne_new nq19 k16)]; exact k16
      have k26 : h19 (qN g b2 1) = some (.inr (0, [.ref (qN g b2 2), .int 0, .int 0, .int 0])) := by rw [eh19, zup_ne _ _ (zne_new nq19 k17)]; exact k17
      have k27 : h19 (qN g b2 2) = some (.inl (gc G 2, (txtOf (qT g b2)).length, .inl gfb2)) := by rw [eh19, zup_ne _ _ (zne_new nq19 k18)]; exact k18
      have k28 : h19 (qA g 14 0) = some (.inr (2, [.int mm10, .ref (qA g 15 0), .int (nI (qS g).dropLast.length)])) := by rw [eh19, zup_ne _ _ (zne_new nq19 ml10)]; exact ml10
      have k29 : h19 q19 = some (.inr (6, [.int 0, .null, .int 0, .null])) := by rw [eh19]; exact zup_self _ _ _
      have nz_q19 : h10 q19 = none := knone (zk_rf (fun _ => False) h10) nq19
      have nh_q19 : h q19 = none := nz_base hg zt10 al10 nz_q19
      refine v_dup C dX4_define_55 rfl ?_
      refine v_aload_n C 0 rfl dX4_define_56 rfl ?_
      refine v_callI (rest := [.ref q19, .ref (qA g 14 1)]) C (c_X3_init l hl G q19 b2 (nI (qL g b2)) _ _ _ _ _ _ _ h19 k29 k25 (zne_new nq19 k16)) I_X4_192 rfl rfl (Nat.le_of_ble_eq_true rfl) ⟨Nat.le_of_ble_eq_true rfl, Nat.le_of_ble_eq_true rfl⟩ ⟨Nat.le_of_ble_eq_true rfl, Nat.le_of_ble_eq_true rfl⟩ dX4_define_57 (fun h30 w30 => ?_)
      obtain ⟨df, vr, hcx, hdx, hvx, ndx, nvx, kpx⟩ := w30
      have nz_df : h10 df = none := knone (zk_new (zk_rf (fun _ => False) h10) eh19 nq19) ndx
      have nh_df : h df = none := nz_base hg zt10 al10 nz_df
      have nz_vr : h10 vr = none := knone (zk_new (zk_rf (fun _ => False) h10) eh19 nq19) nvx
      have nh_vr : h vr = none := nz_base hg zt10 al10 nz_vr
      have k31 : h30 x = some (.inr (7, [.ref (qA g 1 0), .ref (qA g 14 0), .ref (qA g 14 1), .ref (qA g 14 2), .ref (qA g 14 3)])) := kpx _ _ (fun z => (zne_new nq19 k11) z) k20
      have k32 : h30 (qA g 1 0) = some (.inl (gc G 7, 6, .inr (.inr (.inr (.inr fo))))) := kpx _ _ (fun z => (zne_new nq19 k12) z) k21
      have k33 : h30 (qA g 14 1) = some (.inr (2, [.int mo1, .ref (qA g 15 1), .int (nI ((List.range (oN s)).map (qA g 3)).length)])) := kpx _ _ (fun z => (zne_new nq19 k13) z) k22
      have k34 : h30 (qA g 14 2) = some (.inr (2, [.int mo2, .ref (qA g 15 2), .int (nI ((List.range (rN s)).map (qA g 6)).length)])) := kpx _ _ (fun z => (zne_new nq19 k14) z) k23
      have k35 : h30 (qA g 14 3) = some (.inr (2, [.int mo3, .ref (qA g 15 3), .int (nI ((List.range (bN s)).map (qA g 10)).length)])) := kpx _ _ (fun z => (zne_new nq19 k15) z) k24
      have k36 : h30 b2 = some (.inr (4, [.int (nI kdb2), .int (nI ppb2), cab2, cbb2, .int (nI (qL g b2)), .int (gI (gtk (qT g b2))), .ref (qN g b2 1), .ref (qN g b2 0)])) := kpx _ _ (fun z => (zne_new nq19 k16) z) k25
      have k37 : h30 (qN g b2 1) = some (.inr (0, [.ref (qN g b2 2), .int 0, .int 0, .int 0])) := kpx _ _ (fun z => (zne_new nq19 k17) z) k26
      have k38 : h30 (qN g b2 2) = some (.inl (gc G 2, (txtOf (qT g b2)).length, .inl gfb2)) := kpx _ _ (fun z => (zne_new nq19 k18) z) k27
      have k39 : h30 (qA g 14 0) = some (.inr (2, [.int mm10, .ref (qA g 15 0), .int (nI (qS g).dropLast.length)])) := kpx _ _ (fun z => (zne_new nq19 ml10) z) k28
      refine v_ge C (fun hgW => ?_)
      have kpa := (zk_call (zk_new (zk_rf (fun _ => False) h10) eh19 nq19) kpx (fun b e hb _ z => by rw [z, nz_q19] at hb; cases hb))
      have al1B := XL.st hL0 hL1 hg zt10 (by decide)
      have alW := al_kp al1B kpa
      have al0W := al_kp al10 kpa
      refine v_callV (rest := []) C (c_Jx4a65c_add_9ea2d l hl G (qA g 14 1) (qA g 15 1) ((List.range (oN s)).map (qA g 3)) q19 6 _ h30 alW (by rw [mr_len]; omega) hcx (by decide) zob_6) K_X4_155 k33 rfl rfl (Nat.le_of_ble_eq_true rfl) ⟨Nat.le_of_ble_eq_true rfl, Nat.le_of_ble_eq_true rfl⟩ ⟨Nat.le_of_ble_eq_true rfl, Nat.le_of_ble_eq_true rfl⟩ dX4_define_60 (fun i40 h40 w40 => ?_)
      obtain ⟨ei40, ar40, al40, zs40⟩ := w40; subst ei40
      refine v_ge C (fun hg2 => ?_)
      have hcq := stn al1B hgW zs40 nz_q19 hcx
      have hdq := stn al1B hgW zs40 nz_df hdx
      have hvq := stn al1B hgW zs40 nz_vr hvx
      have hox := zs40.1 x _ (fun z => z.elim (x_ar hO hL1 hg).1 (x_ar hO hL1 hg).2) k31
      have al0z := al_st hL1 hL0 (hS.ne (by omega)) hgW al0W zs40 (by decide)
      have hkz := T4k hL0 hL1 hg zt10 kpa zs40
      have hks : kDefine s = 0 := by simp [kDefine, z5, z8]
      refine v_pop C dX4_define_63 rfl ?_
      refine v_aload_n C 2 rfl dX4_define_64 rfl ?_
      have hw2 : WFs (nDefine s) := wf_define hw hks
      have st1z : ar40 = qA g 15 1 ∨ h ar40 = none := zs40.2.imp id (fun z => nz_base hg zt10 al10 (knone kpa z))
      obtain ⟨g2, hxw, hxf⟩ := XW.define hi hw hg2 (by omega) et1 hrb2 hkz al0z st1z al40 nh_q19 nh_df nh_vr hcq hdq hvq
      refine v_callV (rest := []) C (c_X4_settleTerms l hl G x g2 (nDefine s) h40 hxw hw2) K_X4_55 hox rfl rfl (Nat.le_of_ble_eq_true rfl) ⟨Nat.le_of_ble_eq_true rfl, Nat.le_of_ble_eq_true rfl⟩ ⟨Nat.le_of_ble_eq_true rfl, Nat.le_of_ble_eq_true rfl⟩ dX4_define_65 (fun _ h41 w41 => ?_)
      obtain ⟨sfz, xvz⟩ := w41
      have xiz := XW.settle hxw sfz xvz
      have hoz := xiz.1.1.1
      obtain ⟨moz, hmz⟩ := xiz.1.2.2.1.2.1.1.2.1
      refine v_aload_n C 2 rfl dX4_define_68 rfl ?_
      refine v_get (v := .ref (qA g2 14 1)) C F_X4_21 hoz rfl dX4_define_69 ?_
      refine v_callV (rest := []) C (c_Jx4a65c_size_8abf5 l hl G (qA g2 14 1) (qA g2 15 1) ((List.range (oN s + 1)).map (qA g2 3)) h41 xiz.1.2.2.1.2.1.1) K_X4_60 hmz rfl rfl (Nat.le_of_ble_eq_true rfl) ⟨Nat.le_of_ble_eq_true rfl, Nat.le_of_ble_eq_true rfl⟩ ⟨Nat.le_of_ble_eq_true rfl, Nat.le_of_ble_eq_true rfl⟩ dX4_define_72 (fun i42 h42 q42 => ?_)
      obtain ⟨e42, rfl⟩ := q42; subst e42
      refine v_eqi (congrArg nI mr_len) ?_
      refine v_iconst (v := 1) C dX4_define_75 (by decide) ?_
      refine v_isub C dX4_define_76 (v_eqi (nI_sbk (a := (oN s + 1)) 1 (by decide) (by omega)) ?_)
      have ek : (kDefine s) = 0 := by simp [kDefine, inN, wth, z5, z8]
      exact v_iret C hQ hr rfl (Nat.le_of_ble_eq_true rfl) (Nat.le_of_ble_eq_true rfl) dX4_define_77 ⟨ek, rfl, ⟨g2, xiz, hxf.trans sfz.fr0⟩⟩
    · have c7 := (nk_lt_f (a := (oN s)) 10 (by decide) (by omega) (by decide)).mp c7
      have z44 : oN s = 10 := by omega
      have ek : (kDefine s) = 1 := by simp [kDefine, inN, wth, z5, z44]
      exact v_throwS C (TH_64 (i := 190) (tx := "no formula, or too many terms") (by decide)) hto dX4_define_24 dX4_define_27 dX4_define_28 dX4_define_30 dX4_define_33 (Nat.le_of_ble_eq_true rfl) (Nat.le_of_ble_eq_true rfl) ⟨Nat.le_of_ble_eq_true rfl, Nat.le_of_ble_eq_true rfl⟩ ⟨Nat.le_of_ble_eq_true rfl, Nat.le_of_ble_eq_true rfl⟩ ⟨rfl, ⟨ek, rfl⟩⟩

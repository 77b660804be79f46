/-! THE CLASS's calls that put formulas on the stack -/
theorem zg0 {G : zG} {U : State} {H : Heap} (h : zZ G U H) : gs G 0 < gN G := by
  obtain ⟨⟨-, -, ⟨cell, -, -, -, -, -, -, q⟩, -⟩, -⟩ := h
  exact Nat.not_le.mp q
theorem v_ge {p : Program} {l : Launch} {e : Env} {R : Room} {s : State} {m : MethodId} {args : Array Value} {below : List Frame} {meth : Method} {c : Code} {G : zG} {cc : ByteArray} {nL : Nat} {own : String} {Q : State → Prop} {h : zH} {cs sl pc : Nat} {lv : List (Nat × Value)} {st : List Value} (C : zOK p l e R s m args below meth c G cc nL own) (k : (∀ b e, h b = some e → b ≠ gs G 0) → V p l e R s m args below meth c G nL Q h cs sl pc lv st) : V p l e R s m args below meth c G nL Q h cs sl pc lv st := fun H locs ls hP hS hL => k (fun b e hb z => absurd (hP.ge hb) (by rw [z]; exact Nat.not_le.mpr (zg0 C.2.2.2.2.2.2.1))) H locs ls hP hS hL
theorem zSt.pre {h W h2 : zH} {sb ar ar2 : Nat} (kp : zKp (fun _ => False) h W) (z : zSt W h2 sb ar ar2) : zSt h h2 sb ar ar2 := ⟨fun b e hb he => z.1 b e hb (kp b e id he), z.2.imp id (knone kp)⟩
theorem ar_ne {G : zG} {h W : zH} {a ar q : Nat} {L : List Nat} {e : va_E} (hal : zAL G h a ar L) (hgW : ∀ b e, W b = some e → b ≠ gs G 0) (hq : W q = some e) (nq : h q = none) : q ≠ ar := fun z => by
  obtain ⟨-, -, w⟩ := hal
  rcases w with ⟨-, w⟩ | ⟨f, w, -⟩
  · exact hgW q e hq (z.trans w)
  · rw [z, w] at nq; cases nq
theorem ar_ne1 {G : zG} {h W : zH} {a ar q : Nat} {L : List Nat} (hal : zAL G h a ar L) (nq : h q = none) : q ≠ a := fun z => by
  obtain ⟨-, ⟨mo, w⟩, -⟩ := hal
  rw [z, w] at nq; cases nq
/-- what was new ahead of a list step -/
theorem stn {G : zG} {h W h2 : zH} {a ar ar2 q : Nat} {L : List Nat} {e : va_E} (hal : zAL G h a ar L) (hgW : ∀ b e, W b = some e → b ≠ gs G 0) (z : zSt W h2 a ar ar2) (nq : h q = none) (hq : W q = some e) : h2 q = some e := z.1 q e (fun y => y.elim (ar_ne1 (W := W) hal nq) (ar_ne hal hgW hq nq)) hq
theorem x_ar {G : zG} {h : zH} {g : XGh} {x j : Nat} {L : List Nat} (hO : XO G h g x) (hL : XL G h g j L) (hg : ∀ b e, h b = some e → b ≠ gs G 0) : x ≠ qA g 14 j ∧ x ≠ qA g 15 j := ⟨rne hL.2.1 hO.2.1 (by simp), fun z => by
  rcases hL.2.2 with q | ⟨-, q⟩
  · exact rne q hO.2.1 (by simp) z
  · exact hg _ _ hO.1 (z.trans q)⟩
theorem al_kp {G : zG} {h W : zH} {a ar : Nat} {L : List Nat} (hal : zAL G h a ar L) (kp : zKp (fun _ => False) h W) : zAL G W a ar L := hal.fr (fun e he => kp _ e id he) (fun e he => kp _ e id he)
theorem gN_A {g : XGh} {h : zH} {q tx tb row ar lv a3 a4 t k : Nat} {T : List Tok} {S : List Nat} (hne : ¬ (t = 15 ∧ k = 0)) : qA (gNew g h q tx tb row ar T lv a3 a4 S) t k = qA g t k := up3_n hne
theorem gN_N {g : XGh} {h : zH} {q tx tb row ar lv a3 a4 : Nat} {T : List Tok} {S : List Nat} : qN (gNew g h q tx tb row ar T lv a3 a4 S) q = (fun j => if j = 0 then row else if j = 1 then tx else if j = 2 then tb else if j = 3 then a3 else a4) := up2_s
theorem gN_T {g : XGh} {h : zH} {q tx tb row ar lv a3 a4 : Nat} {T : List Tok} {S : List Nat} : qT (gNew g h q tx tb row ar T lv a3 a4 S) q = T := up2_s
theorem gN_L {g : XGh} {h : zH} {q tx tb row ar lv a3 a4 : Nat} {T : List Tok} {S : List Nat} : qL (gNew g h q tx tb row ar T lv a3 a4 S) q = lv := up2_s
set_option maxHeartbeats 4000000 in
set_option maxRecDepth 100000 in
theorem c_X4_account (l : Launch) (hl : l.stackTraces = false) (G : zG) (x : Nat) (g : XGh) (s : ZS) (a : Int32) (h : zH) (hi : XI G h g x s) (hw : WFs s)  : zMetX eI l yX4_account cX4_account 2 (some .int) 19 10 8000 G [.ref x, .int a] h (fun res h2 => (kAccount s a) = 0 ∧ res = nI ((oS s).length + 1) ∧ XQ G h h2 g x (nPush s ([(4, cl a)], 1))) (fun E h2 => h2 = h ∧ (((kAccount s a) = 1 ∧ E = "java/lang/IndexOutOfBoundsException") ∨ ((kAccount s a) = 2 ∧ E = "java/lang/IllegalStateException"))) := by
  refine con_ofX hl RX4 rfl (by decide +kernel) [(0, .ref x), (1, .int a)] rfl (Nat.le_of_ble_eq_true rfl) ?_
  intro zp ze zs zm zargs zbelow zmeth zc C hr hin hto hQ
  obtain ⟨⟨hO, hA, ⟨hL0, hL1, hL2, hL3⟩, hS, hN, hT, hR, hB⟩, hV⟩ := id hi
  obtain ⟨mo0, hmo0⟩ := hL0.1.2.1
  obtain ⟨mo1, hmo1⟩ := hL1.1.2.1
  obtain ⟨mo2, hmo2⟩ := hL2.1.2.1
  obtain ⟨mo3, hmo3⟩ := hL3.1.2.1
  obtain ⟨fo, to, qo⟩ := hO.2.2.2
  have eS : (oS s).length = (qS g).length := by rw [hS.2, List.length_map]
  have hw2 : (oS s).length ≤ 8 := hw.1
  have hw7 : oN s ≤ 10 := hw.2.2.1.1
  have hw17 : rN s ≤ 6 := hw.2.2.2.2.1.1
  have hw25 : bN s ≤ 6 := hw.2.2.2.2.2.1
  refine v_ge C (fun hg => ?_)
  refine v_iload_n C 1 rfl dX4_account_0 rfl ?_
  refine v_callS (rest := []) C (c_X4_isAccount l hl G a h) S_X4_30 rfl rfl (Nat.le_of_ble_eq_true rfl) ⟨Nat.le_of_ble_eq_true rfl, Nat.le_of_ble_eq_true rfl⟩ ⟨Nat.le_of_ble_eq_true rfl, Nat.le_of_ble_eq_true rfl⟩ dX4_account_1 (fun i1 h1 q1 => ?_)
  obtain ⟨e1, rfl⟩ := q1
  by_cases c1 : inN a 6
  · rw [zb_t c1] at e1; subst e1
    obtain ⟨j2, hj2, en2⟩ := inN.nat c1 (by omega)
    subst en2
    have eCa : cl (nI j2) = j2 := cl_nI (by omega)
    refine v_if_ne (tgt := 17) C dX4_account_4 (by decide) (fun c3 => ?_) (fun c3 => absurd c3 (by decide))
    refine v_aload_n C 0 rfl dX4_account_17 rfl ?_
    refine v_get (v := .ref (qA g 14 0)) C F_X4_17 hO.1 rfl dX4_account_18 ?_
    refine v_callV (rest := []) C (c_Jx4a65c_size_8abf5 l hl G (qA g 14 0) (qA g 15 0) (qS g) h hL0.1) K_X4_60 hmo0 rfl rfl (Nat.le_of_ble_eq_true rfl) ⟨Nat.le_of_ble_eq_true rfl, Nat.le_of_ble_eq_true rfl⟩ ⟨Nat.le_of_ble_eq_true rfl, Nat.le_of_ble_eq_true rfl⟩ dX4_account_21 (fun i4 h4 q4 => ?_)
    obtain ⟨e4, rfl⟩ := q4; subst e4
    refine v_eqi (congrArg nI eS.symm) ?_
    refine v_bipush (v := 8) C dX4_account_24 (by decide) ?_
    refine v_icmp_lt (tgt := 39) C dX4_account_26 (by decide) (fun c5 => ?_) (fun c5 => ?_)
    · have c5 := (nk_lt (a := (oS s).length) 8 (by decide) (by omega) (by decide)).mp c5
      have z6 : ¬ (oS s).length = 8 := by omega
      refine v_aload_n C 0 rfl dX4_account_39 rfl ?_
      refine v_new C N_X4_69 (Nat.le_of_ble_eq_true rfl) (Nat.le_of_ble_eq_true rfl) dX4_account_40 (fun q7 gq7 nq7 => v_nw (fun h7 eh7 => ?_))
      have k8 : h7 x = some (.inr (7, [.ref (qA g 1 0), .ref (qA g 14 0), .ref (qA g 14 1), .ref (qA g 14 2), .ref (qA g 14 3)])) := by rw [eh7, zup_ne _ _ (zne_new nq7 hO.1)]; exact hO.1
      have k9 : h7 (qA g 1 0) = some (.inl (gc G 7, 6, .inr (.inr (.inr (.inr fo))))) := by rw [eh7, zup_ne _ _ (zne_new nq7 to)]; exact to
      have k10 : h7 (qA g 14 0) = some (.inr (2, [.int mo0, .ref (qA g 15 0), .int (nI (qS g).length)])) := by rw [eh7, zup_ne _ _ (zne_new nq7 hmo0)]; exact hmo0
      have k11 : h7 (qA g 14 1) = some (.inr (2, [.int mo1, .ref (qA g 15 1), .int (nI ((List.range (oN s)).map (qA g 3)).length)])) := by rw [eh7, zup_ne _ _ (zne_new nq7 hmo1)]; exact hmo1
      have k12 : h7 (qA g 14 2) = some (.inr (2, [.int mo2, .ref (qA g 15 2), .int (nI ((List.range (rN s)).map (qA g 6)).length)])) := by rw [eh7, zup_ne _ _ (zne_new nq7 hmo2)]; exact hmo2
      have k13 : h7 (qA g 14 3) = some (.inr (2, [.int mo3, .ref (qA g 15 3), .int (nI ((List.range (bN s)).map (qA g 10)).length)])) := by rw [eh7, zup_ne _ _ (zne_new nq7 hmo3)]; exact hmo3
      have k14 : h7 q7 = some (.inr (4, [.int 0, .int 0, .null, .null, .int 0, .int 0, .null, .null])) := by rw [eh7]; exact zup_self _ _ _
      have nz_q7 : h q7 = none := knone (zk_rf (fun _ => False) h) nq7
      refine v_dup C dX4_account_43 rfl ?_
      refine v_iconst (v := 1) C dX4_account_44 (by decide) ?_
      refine v_iconst (v := (-1)) C dX4_account_45 (by decide) ?_
      refine v_ldcS (tx := "A") C rfl (by decide) dX4_account_46 ?_
      refine v_iload_n C 1 rfl dX4_account_48 rfl ?_
      refine v_callS (rest := [.int (-1), .int 1, .ref q7, .ref q7, .ref x]) C (c_X4_numbered_A l hl G j2 h7 (by omega)) S_X4_73 rfl rfl (Nat.le_of_ble_eq_true rfl) ⟨Nat.le_of_ble_eq_true rfl, Nat.le_of_ble_eq_true rfl⟩ ⟨Nat.le_of_ble_eq_true rfl, Nat.le_of_ble_eq_true rfl⟩ dX4_account_49 (fun r15 h15 w15 => ?_)
      obtain ⟨nr15, kp15, tb15, gf15, nb15, tx15, tt15, ts15, tf15⟩ := w15
      have nz_r15 : h r15 = none := knone (zk_new (zk_rf (fun _ => False) h) eh7 nq7) nr15
      have nz_tb15 : h tb15 = none := knone (zk_new (zk_rf (fun _ => False) h) eh7 nq7) nb15
      have k16 : h15 x = some (.inr (7, [.ref (qA g 1 0), .ref (qA g 14 0), .ref (qA g 14 1), .ref (qA g 14 2), .ref (qA g 14 3)])) := kp15 _ _ id k8
      have k17 : h15 (qA g 1 0) = some (.inl (gc G 7, 6, .inr (.inr (.inr (.inr fo))))) := kp15 _ _ id k9
      have k18 : h15 (qA g 14 0) = some (.inr (2, [.int mo0, .ref (qA g 15 0), .int (nI (qS g).length)])) := kp15 _ _ id k10
      have k19 : h15 (qA g 14 1) = some (.inr (2, [.int mo1, .ref (qA g 15 1), .int (nI ((List.range (oN s)).map (qA g 3)).length)])) := kp15 _ _ id k11
      have k20 : h15 (qA g 14 2) = some (.inr (2, [.int mo2, .ref (qA g 15 2), .int (nI ((List.range (rN s)).map (qA g 6)).length)])) := kp15 _ _ id k12
      have k21 : h15 (qA g 14 3) = some (.inr (2, [.int mo3, .ref (qA g 15 3), .int (nI ((List.range (bN s)).map (qA g 10)).length)])) := kp15 _ _ id k13
      have k22 : h15 q7 = some (.inr (4, [.int 0, .int 0, .null, .null, .int 0, .int 0, .null, .null])) := kp15 _ _ id k14
      refine v_aload_n C 0 rfl dX4_account_52 rfl ?_
      refine v_get (v := .ref (qA g 1 0)) C F_X4_11 k16 rfl dX4_account_53 ?_
      refine v_iload_n C 1 rfl dX4_account_56 rfl ?_
      refine v_aald C 7 rfl rfl k17 (vpin (show j2 < 6 by omega) (by decide)) dX4_account_57 ?_
      rw [nI_clamp (show j2 < 2 ^ 31 by omega), qo j2 (by omega)]
      refine v_callI (rest := [.ref q7, .ref x]) C (c_X1_init l hl G q7 r15 (qA g 2 j2) 1 (-1) h15 k22) I_X4_77 rfl rfl (Nat.le_of_ble_eq_true rfl) ⟨Nat.le_of_ble_eq_true rfl, Nat.le_of_ble_eq_true rfl⟩ ⟨Nat.le_of_ble_eq_true rfl, Nat.le_of_ble_eq_true rfl⟩ dX4_account_58 (fun h23 w23 => ?_)
      obtain ⟨hc23, kp23⟩ := w23
      have k24 : h23 x = some (.inr (7, [.ref (qA g 1 0), .ref (qA g 14 0), .ref (qA g 14 1), .ref (qA g 14 2), .ref (qA g 14 3)])) := kp23 _ _ (fun z => (zne_new nq7 hO.1) z) k16
      have k25 : h23 (qA g 1 0) = some (.inl (gc G 7, 6, .inr (.inr (.inr (.inr fo))))) := kp23 _ _ (fun z => (zne_new nq7 to) z) k17
      have k26 : h23 (qA g 14 0) = some (.inr (2, [.int mo0, .ref (qA g 15 0), .int (nI (qS g).length)])) := kp23 _ _ (fun z => (zne_new nq7 hmo0) z) k18
      have k27 : h23 (qA g 14 1) = some (.inr (2, [.int mo1, .ref (qA g 15 1), .int (nI ((List.range (oN s)).map (qA g 3)).length)])) := kp23 _ _ (fun z => (zne_new nq7 hmo1) z) k19
      have k28 : h23 (qA g 14 2) = some (.inr (2, [.int mo2, .ref (qA g 15 2), .int (nI ((List.range (rN s)).map (qA g 6)).length)])) := kp23 _ _ (fun z => (zne_new nq7 hmo2) z) k20
      have k29 : h23 (qA g 14 3) = some (.inr (2, [.int mo3, .ref (qA g 15 3), .int (nI ((List.range (bN s)).map (qA g 10)).length)])) := kp23 _ _ (fun z => (zne_new nq7 hmo3) z) k21
      have k30 : h23 r15 = some (.inr (0, [.ref tb15, .int 0, .int 0, .int 0])) := kp23 _ _ (fun z => (Ne.symm (zne_new nr15 k14)) z) tx15
      have k31 : h23 tb15 = some (.inl (gc G 2, ([65] ++ dgl j2).length, .inl gf15)) := kp23 _ _ (fun z => (zne_oi k22 tt15) z) tt15
      refine v_ge C (fun hgW => ?_)
      have kpa := (zk_call (zk_call (zk_new (zk_rf (fun _ => False) h) eh7 nq7) kp15 (fun _ _ _ _ z => z)) kp23 (fun b e hb _ z => by rw [z, nz_q7] at hb; cases hb))
      have alW := al_kp hL0.1 kpa
      refine v_callV (rest := []) C (c_X4_push l hl G x (qA g 1 0) (qA g 14 0) (qA g 14 1) (qA g 14 2) (qA g 14 3) q7 (qA g 15 0) (qS g) _ h23 k24 alW (by omega) hc23 (x_ar hO hL0 hg).1 (x_ar hO hL0 hg).2) K_X4_80 k24 rfl rfl (Nat.le_of_ble_eq_true rfl) ⟨Nat.le_of_ble_eq_true rfl, Nat.le_of_ble_eq_true rfl⟩ ⟨Nat.le_of_ble_eq_true rfl, Nat.le_of_ble_eq_true rfl⟩ dX4_account_61 (fun i32 h32 w32 => ?_)
      obtain ⟨ei32, ar32, al32, zs32⟩ := w32; subst ei32
      refine v_ge C (fun hg2 => ?_)
      refine v_eqi (congrArg (fun z => nI (z + 1)) eS.symm) ?_
      have ek : (kAccount s (nI j2)) = 0 := by simp [kAccount, inN, wth, c1, z6]
      have hcq := stn hL0.1 hgW zs32 nz_q7 hc23
      have hct := stn hL0.1 hgW zs32 nz_r15 k30
      have hcb := stn hL0.1 hgW zs32 nz_tb15 k31
      have hgl : (-1) = gI (gtk [(4, j2)]) := (show (-1 : Int32) = gI 0 by decide)
      rw [hgl] at hcq
      exact v_iret C hQ hr rfl (Nat.le_of_ble_eq_true rfl) (Nat.le_of_ble_eq_true rfl) dX4_account_64 ⟨ek, rfl, (by show XQ G h _ g x (s.1, oS s ++ [([(4, cl (nI j2))], 1)], s.2.2); rw [eCa, hS.2]; exact XI.node (tb := tb15) (kd := 4) (p := 0) (a3 := 0) (a4 := 0) (t := [(4, j2)]) (lv := 1) (base := qS g) hi hg hg2 (zSt.pre kpa zs32) al32 (fun _ ha => ha) nz_q7 nz_r15 nz_tb15 hcq hct hcb ts15 tf15 (by decide) (by decide) (Or.inl ⟨j2, by omega, rfl⟩) (Nat.zero_le _) (Or.inl ⟨rfl, rfl, rfl, rfl, Or.inl ⟨j2, by omega, gN_T, gN_L, by rw [gN_N, gN_A (by simp)]; rfl⟩⟩))⟩
    · have c5 := (nk_lt_f (a := (oS s).length) 8 (by decide) (by omega) (by decide)).mp c5
      have z33 : (oS s).length = 8 := by omega
      have ek : (kAccount s (nI j2)) = 2 := by simp [kAccount, inN, wth, c1, z33]
      exact v_throwS C (TH_64 (i := 66) (tx := "the stack is full") (by decide)) hto dX4_account_29 dX4_account_32 dX4_account_33 dX4_account_35 dX4_account_38 (Nat.le_of_ble_eq_true rfl) (Nat.le_of_ble_eq_true rfl) ⟨Nat.le_of_ble_eq_true rfl, Nat.le_of_ble_eq_true rfl⟩ ⟨Nat.le_of_ble_eq_true rfl, Nat.le_of_ble_eq_true rfl⟩ ⟨rfl, Or.inr (⟨ek, rfl⟩)⟩
  · rw [zb_f c1] at e1; subst e1
    refine v_if_ne (tgt := 17) C dX4_account_4 (by decide) (fun c35 => absurd c35 (by decide)) (fun c35 => ?_)
    have ek : (kAccount s a) = 1 := by simp [kAccount, inN, wth, c1]
    exact v_throwS C (TH_37 (i := 58) (tx := "no such account") (by decide)) hto dX4_account_7 dX4_account_10 dX4_account_11 dX4_account_13 dX4_account_16 (Nat.le_of_ble_eq_true rfl) (Nat.le_of_ble_eq_true rfl) ⟨Nat.le_of_ble_eq_true rfl, Nat.le_of_ble_eq_true rfl⟩ ⟨Nat.le_of_ble_eq_true rfl, Nat.le_of_ble_eq_true rfl⟩ ⟨rfl, Or.inl ⟨ek, rfl⟩⟩

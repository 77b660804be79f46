theorem gN_row {G : zG} {h h2 : zH} {g : XGh} {q tx tb row ar a lv a3 a4 n : Nat} {t : List Tok} {S L : List Nat} {vs ws : List Value} {f : Nat → Int32} {fr : Nat → Int64} (hc : h2 q = some (.inr (4, vs))) (htx : h2 tx = some (.inr (0, ws))) (htb : h2 tb = some (.inl (gc G 2, n, .inl f))) (al : zAL G h2 a ar (L ++ [q])) (hrow : h2 row = some (cL G fr)) (nr : h row = none) : qR (gNew g h q tx tb row ar t lv a3 a4 S) row = (12, q) := by
  have n1 : row ≠ q := zne_ol hc hrow
  have n2 : row ≠ tx := zne_ol htx hrow
  have n3 : row ≠ tb := zne_il htb hrow
  have n4 : row ≠ ar := fun z => by
    obtain ⟨-, -, w⟩ := al
    rcases w with ⟨w, -⟩ | ⟨ff, w, -⟩
    · simp at w
    · rw [← z] at w; exact zne_lq hrow w rfl
  exact (rx_n nr).trans ((nrA_n n1).trans ((nrA_n n2).trans ((nrA_n n3).trans ((nrA_n n4).trans nrA_s))))
theorem gN_o {g : XGh} {h : zH} {q tx tb row ar lv a3 a4 b : Nat} {T : List Tok} {S : List Nat} {e : va_E} {r : Nat × Nat} (nq : h q = none) (hb : h b = some e) (hr : qR g b = r) : qR (gNew g h q tx tb row ar T lv a3 a4 S) b = r ∧ qT (gNew g h q tx tb row ar T lv a3 a4 S) b = qT g b ∧ qL (gNew g h q tx tb row ar T lv a3 a4 S) b = qL g b := by
  have ne : b ≠ q := fun z => by rw [z, nq] at hb; cases hb
  exact ⟨(rx_o hb).trans hr, up2_n ne, up2_n ne⟩
theorem nk_J {G : zG} {h h2 : zH} {g : XGh} {q tx tb row ar a3 a4 kd : Nat} {S : List Nat} {fr : Nat → Int64} {e3 e4 : va_E} {t : List Tok} {lv : Nat} (ht : t = qT g a3 ++ qT g a4 ++ [(kd, 0)]) (hlv : lv = 1 + max (qL g a3) (qL g a4)) (nq : h q = none) (h3 : h a3 = some e3) (r3 : qR g a3 = (11, 0)) (h4 : h a4 = some e4) (r4 : qR g a4 = (11, 0)) (hkd : kd < 4) (rr : qR (gNew g h q tx tb row ar t lv a3 a4 S) row = (12, q)) (hrow : h2 row = some (cL G fr)) : nkMade G h2 (gNew g h q tx tb row ar t lv a3 a4 S) q kd 0 (.ref a3) (.ref a4) := by
  obtain ⟨o1, o2, o3⟩ := gN_o (tx := tx) (tb := tb) (row := row) (ar := ar) (lv := lv) (a3 := a3) (a4 := a4) (T := t) (S := S) nq h3 r3
  obtain ⟨p1, p2, p3⟩ := gN_o (tx := tx) (tb := tb) (row := row) (ar := ar) (lv := lv) (a3 := a3) (a4 := a4) (T := t) (S := S) nq h4 r4
  unfold nkMade
  rw [gN_N]
  exact ⟨rr, ⟨fr, hrow⟩, rfl, o1, Or.inl ⟨hkd, rfl, rfl, p1, (gN_T.trans ht).trans (by show _ = qT _ a3 ++ qT _ a4 ++ _; rw [o2, p2]), (gN_L.trans hlv).trans (by show _ = 1 + max (qL _ a3) (qL _ a4); rw [o3, p3])⟩⟩
theorem nk_S {G : zG} {h h2 : zH} {g : XGh} {q tx tb row ar a3 a4 p : Nat} {S : List Nat} {fr : Nat → Int64} {e3 : va_E} {t : List Tok} {lv : Nat} (ht : t = qT g a3 ++ [(7, p)]) (hlv : lv = qL g a3 + 1) (nq : h q = none) (h3 : h a3 = some e3) (r3 : qR g a3 = (11, 0)) (hp : p ≤ 100) (rr : qR (gNew g h q tx tb row ar t lv a3 a4 S) row = (12, q)) (hrow : h2 row = some (cL G fr)) : nkMade G h2 (gNew g h q tx tb row ar t lv a3 a4 S) q 5 p (.ref a3) .null := by
  obtain ⟨o1, o2, o3⟩ := gN_o (tx := tx) (tb := tb) (row := row) (ar := ar) (lv := lv) (a3 := a3) (a4 := a4) (T := t) (S := S) nq h3 r3
  unfold nkMade
  rw [gN_N]
  exact ⟨rr, ⟨fr, hrow⟩, rfl, o1, Or.inr (Or.inl ⟨rfl, hp, rfl, (gN_T.trans ht).trans (by show _ = qT _ a3 ++ _; rw [o2]), (gN_L.trans hlv).trans (by show _ = qL _ a3 + 1; rw [o3])⟩)⟩
theorem nk_Y {G : zG} {h h2 : zH} {g : XGh} {q tx tb row ar a3 a4 : Nat} {S : List Nat} {fr : Nat → Int64} {e3 : va_E} {t : List Tok} {lv : Nat} (ht : t = qT g a3 ++ [(8, 0)]) (hlv : lv = qL g a3 + 1) (nq : h q = none) (h3 : h a3 = some e3) (r3 : qR g a3 = (11, 0)) (rr : qR (gNew g h q tx tb row ar t lv a3 a4 S) row = (12, q)) (hrow : h2 row = some (cL G fr)) : nkMade G h2 (gNew g h q tx tb row ar t lv a3 a4 S) q 6 0 (.ref a3) .null := by
  obtain ⟨o1, o2, o3⟩ := gN_o (tx := tx) (tb := tb) (row := row) (ar := ar) (lv := lv) (a3 := a3) (a4 := a4) (T := t) (S := S) nq h3 r3
  unfold nkMade
  rw [gN_N]
  exact ⟨rr, ⟨fr, hrow⟩, rfl, o1, Or.inr (Or.inr ⟨rfl, rfl, rfl, (gN_T.trans ht).trans (by show _ = qT _ a3 ++ _; rw [o2]), (gN_L.trans hlv).trans (by show _ = qL _ a3 + 1; rw [o3])⟩)⟩
theorem nz_base {G : zG} {h B : zH} {g : XGh} {q j : Nat} {L2 : List Nat} (hg : ∀ b e, h b = some e → b ≠ gs G 0) (zt : zSt h B (qA g 14 j) (qA g 15 j) (qA g 15 j)) (al : zAL G B (qA g 14 j) (qA g 15 j) L2) (hn : B q = none) : h q = none := by
  cases hh : h q with
  | none => rfl
  | some e =>
    obtain ⟨-, ⟨mo, w1⟩, w2⟩ := al
    have z1 : q ≠ qA g 14 j := fun z => by rw [z, w1] at hn; cases hn
    have z2 : q ≠ qA g 15 j := fun z => by
      rcases w2 with ⟨-, w2⟩ | ⟨f, w2, -⟩
      · exact hg q e hh (z.trans w2)
      · rw [z, w2] at hn; cases hn
    have := zt.1 q e (fun z => z.elim z1 z2) hh
    rw [hn] at this; cases this
theorem stk_get {g : XGh} {S : List Frm} (hS : XS g S) {i : Nat} (hi : i < (qS g).length) : S.getD i ([], 0) = (qT g ((qS g).getD i 0), qL g ((qS g).getD i 0)) := by
  rw [hS.2, List.getD_eq_getElem?_getD, List.getD_eq_getElem?_getD, List.getElem?_map, List.getElem?_eq_getElem hi]; rfl
theorem mem_dl {a : Nat} {l : List Nat} (h : a ∈ l.dropLast) : a ∈ l := by
  rw [List.dropLast_eq_take] at h; exact List.mem_of_mem_take h
theorem map_dl {α β : Type} {f : α → β} {l : List α} : l.dropLast.map f = (l.map f).dropLast := by
  rw [List.dropLast_eq_take, List.dropLast_eq_take, List.map_take, List.length_map]
/-- the stack alone is another -/
theorem XI.stk {G : zG} {h h2 : zH} {g : XGh} {x ar : Nat} {s : ZS} {L : List Nat} (hi : XI G h g x s) (hg : ∀ b e, h b = some e → b ≠ gs G 0) (hg2 : ∀ b e, h2 b = some e → b ≠ gs G 0) (st : zSt h h2 (qA g 14 0) (qA g 15 0) ar) (al : zAL G h2 (qA g 14 0) ar L) (hb : ∀ a ∈ L, a ∈ qS g) : XQ G h h2 g x (s.1, L.map (fun a => (qT g a, qL g a)), s.2.2) := by
  obtain ⟨⟨hO, hA, ⟨hL0, hL1, hL2, hL3⟩, hS, hN, hT, hR, hB⟩, hV⟩ := hi
  have k : KP (fun r => r ≠ (14, 0) ∧ r ≠ (15, 0)) (fun r => r ≠ (15, 0)) g (rx (qR g) h (nrA ar (15, 0) nr0), up3 (qA g) 15 0 ar, qT g, qL g, qN g, L) h h2 := KP.mk (st_keep hL0 hg st) (fun t k hu => up3_n (fun z => hu (by rw [z.1, z.2]))) (fun b e hb => ⟨rfl, rfl, rfl⟩)
  have ko : KO G g h h2 := k.ko (by simp)
  refine ⟨_, ⟨⟨hO.fr k (by simp) (by simp) (by simp) (by simp) (by simp), hA.fr k (by simp) (by simp), ⟨?_, hL1.fr k (by simp) (by simp) (by simp) (by simp), hL2.fr k (by simp) (by simp) (by simp) (by simp), hL3.fr k (by simp) (by simp) (by simp) (by simp)⟩, hS.keep hN k rfl hb, fun a ha => ?_, fun i hi => (hT i hi).fr5 hN k (by simp) (by simp) (by simp) (by simp) (by simp) (by simp) rfl rfl, fun i hi => (hR i hi).fr k (by simp) (by simp) (by simp) (by simp) (by simp) (by simp) (by simp) (by simp) (by simp) (by simp) rfl rfl rfl rfl rfl rfl rfl, fun i hi => (hB i hi).fr k (by simp) (by simp) (by simp) rfl rfl rfl rfl⟩, hV.fr k hT (by simp) (by simp) rfl rfl⟩, k.fr0 (by simp)⟩
  · exact hL0.next hg2 st al (k.2 14 0 (by simp)) (show up3 (qA g) 15 0 ar 15 0 = ar from up3_s) (fun e he => (k.1 _ e he).2.1.trans hL0.2.1) (fun e he => (k.1 _ e he).2.1) (fun hn _ => (rx_n hn).trans nrA_s)
  · cases hh : h a with
    | some e => exact NF.fr hN ((k.1 a e hh).2.1.symm.trans ha) k ko (by simp) (by simp) (by simp) (by simp) (Nat.le_refl _) (fun _ _ => rfl)
    | none =>
      have ha2 : rx (qR g) h (nrA ar (15, 0) nr0) a = (11, 0) := ha
      rw [rx_n hh] at ha2
      by_cases z : a = ar
      · rw [z, nrA_s] at ha2; cases ha2
      · rw [nrA_n z] at ha2; cases ha2
set_option maxHeartbeats 4000000 in
set_option maxRecDepth 100000 in
theorem c_X4_number (l : Launch) (hl : l.stackTraces = false) (G : zG) (x : Nat) (g : XGh) (s : ZS) (v : Int32) (h : zH) (hi : XI G h g x s) (hw : WFs s)  : zMetX eI l yX4_number cX4_number 3 (some .int) 19 10 8000 G [.ref x, .int v] h (fun res h2 => (kNumber s v) = 0 ∧ res = nI ((oS s).length + 1) ∧ XQ G h h2 g x (nPush s ([(5, cl v)], 1))) (fun E h2 => h2 = h ∧ (((kNumber s v) = 1 ∧ E = "java/lang/IllegalArgumentException") ∨ ((kNumber s v) = 2 ∧ E = "java/lang/IllegalStateException"))) := by
  refine con_ofX hl RX4 rfl (by decide +kernel) [(0, .ref x), (1, .int v)] rfl (Nat.le_of_ble_eq_true rfl) ?_
  intro zp ze zs zm zargs zbelow zmeth zc C hr hin hto hQ
  obtain ⟨⟨hO, hA, ⟨hL0, hL1, hL2, hL3⟩, hS, hN, hT, hR, hB⟩, hV⟩ := id hi
  obtain ⟨mo0, hmo0⟩ := hL0.1.2.1
  obtain ⟨mo1, hmo1⟩ := hL1.1.2.1
  obtain ⟨mo2, hmo2⟩ := hL2.1.2.1
  obtain ⟨mo3, hmo3⟩ := hL3.1.2.1
  obtain ⟨fo, to, qo⟩ := hO.2.2.2
  have eS : (oS s).length = (qS g).length := by rw [hS.2, List.length_map]
  have hw2 : (oS s).length ≤ 8 := hw.1
  have hw7 : oN s ≤ 10 := hw.2.2.1.1
  have hw17 : rN s ≤ 6 := hw.2.2.2.2.1.1
  have hw25 : bN s ≤ 6 := hw.2.2.2.2.2.1
  refine v_ge C (fun hg => ?_)
  refine v_iload_n C 1 rfl dX4_number_0 rfl ?_
  refine v_iconst (v := 0) C dX4_number_1 (by decide) ?_
  refine v_ldc C KO_X4_45 dX4_number_2 ?_
  refine v_callS (rest := []) C (c_X4_isWithin l hl G v 0 1000000 h) S_X4_46 rfl rfl (Nat.le_of_ble_eq_true rfl) ⟨Nat.le_of_ble_eq_true rfl, Nat.le_of_ble_eq_true rfl⟩ ⟨Nat.le_of_ble_eq_true rfl, Nat.le_of_ble_eq_true rfl⟩ dX4_number_4 (fun i1 h1 q1 => ?_)
  obtain ⟨e1, rfl⟩ := q1
  by_cases c1 : wth v 0 1000000
  · rw [zb_t c1] at e1; subst e1
    obtain ⟨j2, hj2, en2⟩ := wth_nat (n := 1000000) c1 (by decide) (by decide)
    subst en2
    have eCv : cl (nI j2) = j2 := cl_nI (by omega)
    refine v_if_ne (tgt := 20) C dX4_number_7 (by decide) (fun c3 => ?_) (fun c3 => absurd c3 (by decide))
    refine v_aload_n C 0 rfl dX4_number_20 rfl ?_
    refine v_get (v := .ref (qA g 14 0)) C F_X4_17 hO.1 rfl dX4_number_21 ?_
    refine v_callV (rest := []) C (c_Jx4a65c_size_8abf5 l hl G (qA g 14 0) (qA g 15 0) (qS g) h hL0.1) K_X4_60 hmo0 rfl rfl (Nat.le_of_ble_eq_true rfl) ⟨Nat.le_of_ble_eq_true rfl, Nat.le_of_ble_eq_true rfl⟩ ⟨Nat.le_of_ble_eq_true rfl, Nat.le_of_ble_eq_true rfl⟩ dX4_number_24 (fun i4 h4 q4 => ?_)
    obtain ⟨e4, rfl⟩ := q4; subst e4
    refine v_eqi (congrArg nI eS.symm) ?_
    refine v_bipush (v := 8) C dX4_number_27 (by decide) ?_
    refine v_icmp_lt (tgt := 42) C dX4_number_29 (by decide) (fun c5 => ?_) (fun c5 => ?_)
    · have c5 := (nk_lt (a := (oS s).length) 8 (by decide) (by omega) (by decide)).mp c5
      have z6 : ¬ (oS s).length = 8 := by omega
      refine v_bipush (v := 20) C dX4_number_42 (by decide) ?_
      refine v_newa (atype := .long) (N := 20) (z := (20, .inr (.inl (fun _ => 0)))) C 1 rfl rfl rfl AY_long (fun cA => rfl) (by decide) (by decide) (by decide) (Nat.le_of_ble_eq_true rfl) (Nat.le_of_ble_eq_true rfl) dX4_number_44 (fun q7 gq7 nq7 => v_nw (fun h7 eh7 => ?_))
      have k8 : h7 x = some (.inr (7, [.ref (qA g 1 0), .ref (qA g 14 0), .ref (qA g 14 1), .ref (qA g 14 2), .ref (qA g 14 3)])) := by rw [eh7, zup_ne _ _ (zne_new nq7 hO.1)]; exact hO.1
      have k9 : h7 (qA g 1 0) = some (.inl (gc G 7, 6, .inr (.inr (.inr (.inr fo))))) := by rw [eh7, zup_ne _ _ (zne_new nq7 to)]; exact to
      have k10 : h7 (qA g 14 0) = some (.inr (2, [.int mo0, .ref (qA g 15 0), .int (nI (qS g).length)])) := by rw [eh7, zup_ne _ _ (zne_new nq7 hmo0)]; exact hmo0
      have k11 : h7 (qA g 14 1) = some (.inr (2, [.int mo1, .ref (qA g 15 1), .int (nI ((List.range (oN s)).map (qA g 3)).length)])) := by rw [eh7, zup_ne _ _ (zne_new nq7 hmo1)]; exact hmo1
      have k12 : h7 (qA g 14 2) = some (.inr (2, [.int mo2, .ref (qA g 15 2), .int (nI ((List.range (rN s)).map (qA g 6)).length)])) := by rw [eh7, zup_ne _ _ (zne_new nq7 hmo2)]; exact hmo2
      have k13 : h7 (qA g 14 3) = some (.inr (2, [.int mo3, .ref (qA g 15 3), .int (nI ((List.range (bN s)).map (qA g 10)).length)])) := by rw [eh7, zup_ne _ _ (zne_new nq7 hmo3)]; exact hmo3
      have k14 : h7 q7 = some (.inl (gc G 1, 20, .inr (.inl (fun _ => 0)))) := by rw [eh7]; exact zup_self _ _ _
      have nz_q7 : h q7 = none := knone (zk_rf (fun _ => False) h) nq7
      refine v_astore_n C [(2, .ref q7), (0, .ref x), (1, .int (nI j2))] rfl (by decide) dX4_number_46 rfl ?_
      refine v_aload_n C 0 rfl dX4_number_47 rfl ?_
      refine v_iload_n C 2 rfl dX4_number_48 rfl ?_
      refine v_i2l (v := lN64 j2) C dX4_number_49 rfl ?_
      refine v_callS (rest := []) C (c_J7_fill_d0a16 l hl G q7 20 (fun _ => 0) (lN64 j2) h7 k14 (by decide)) S_X4_86 rfl rfl (Nat.le_of_ble_eq_true rfl) ⟨Nat.le_of_ble_eq_true rfl, Nat.le_of_ble_eq_true rfl⟩ ⟨Nat.le_of_ble_eq_true rfl, Nat.le_of_ble_eq_true rfl⟩ dX4_number_50 (fun _ h15 w15 => ?_)
      obtain ⟨f15, kf15, ke15, kv15⟩ := w15
      have eh15 : h15 = zup h7 q7 (cL G f15) := zup_ofF kf15 ke15
      have k16 : h15 x = some (.inr (7, [.ref (qA g 1 0), .ref (qA g 14 0), .ref (qA g 14 1), .ref (qA g 14 2), .ref (qA g 14 3)])) := by rw [eh15, zup_ne _ _ (zne_new nq7 hO.1)]; exact k8
      have k17 : h15 (qA g 1 0) = some (.inl (gc G 7, 6, .inr (.inr (.inr (.inr fo))))) := by rw [eh15, zup_ne _ _ (zne_new nq7 to)]; exact k9
      have k18 : h15 (qA g 14 0) = some (.inr (2, [.int mo0, .ref (qA g 15 0), .int (nI (qS g).length)])) := by rw [eh15, zup_ne _ _ (zne_new nq7 hmo0)]; exact k10
      have k19 : h15 (qA g 14 1) = some (.inr (2, [.int mo1, .ref (qA g 15 1), .int (nI ((List.range (oN s)).map (qA g 3)).length)])) := by rw [eh15, zup_ne _ _ (zne_new nq7 hmo1)]; exact k11
      have k20 : h15 (qA g 14 2) = some (.inr (2, [.int mo2, .ref (qA g 15 2), .int (nI ((List.range (rN s)).map (qA g 6)).length)])) := by rw [eh15, zup_ne _ _ (zne_new nq7 hmo2)]; exact k12
      have k21 : h15 (qA g 14 3) = some (.inr (2, [.int mo3, .ref (qA g 15 3), .int (nI ((List.range (bN s)).map (qA g 10)).length)])) := by rw [eh15, zup_ne _ _ (zne_new nq7 hmo3)]; exact k13
      have k22 : h15 q7 = some (.inl (gc G 1, 20, .inr (.inl f15))) := by rw [eh15]; exact zup_self _ _ _
      refine v_aload_n C 1 rfl dX4_number_53 rfl ?_
      refine v_new C N_X4_69 (Nat.le_of_ble_eq_true rfl) (Nat.le_of_ble_eq_true rfl) dX4_number_54 (fun q23 gq23 nq23 => v_nw (fun h23 eh23 => ?_))
      have k24 : h23 x = some (.inr (7, [.ref (qA g 1 0), .ref (qA g 14 0), .ref (qA g 14 1), .ref (qA g 14 2), .ref (qA g 14 3)])) := by rw [eh23, zup_ne _ _ (zne_new nq23 k16)]; exact k16
      have k25 : h23 (qA g 1 0) = some (.inl (gc G 7, 6, .inr (.inr (.inr (.inr fo))))) := by rw [eh23, zup_ne _ _ (zne_new nq23 k17)]; exact k17
      have k26 : h23 (qA g 14 0) = some (.inr (2, [.int mo0, .ref (qA g 15 0), .int (nI (qS g).length)])) := by rw [eh23, zup_ne _ _ (zne_new nq23 k18)]; exact k18
      have k27 : h23 (qA g 14 1) = some (.inr (2, [.int mo1, .ref (qA g 15 1), .int (nI ((List.range (oN s)).map (qA g 3)).length)])) := by rw [eh23, zup_ne _ _ (zne_new nq23 k19)]; exact k19
      have k28 : h23 (qA g 14 2) = some (.inr (2, [.int mo2, .ref (qA g 15 2), .int (nI ((List.range (rN s)).map (qA g 6)).length)])) := by rw [eh23, zup_ne _ _ (zne_new nq23 k20)]; exact k20
      have k29 : h23 (qA g 14 3) = some (.inr (2, [.int mo3, .ref (qA g 15 3), .int (nI ((List.range (bN s)).map (qA g 10)).length)])) := by rw [eh23, zup_ne _ _ (zne_new nq23 k21)]; exact k21
      have k30 : h23 q7 = some (.inl (gc G 1, 20, .inr (.inl f15))) := by rw [eh23, zup_ne _ _ (zne_new nq23 k22)]; exact k22
      have k31 : h23 q23 = some (.inr (4, [.int 0, .int 0, .null, .null, .int 0, .int 0, .null, .null])) := by rw [eh23]; exact zup_self _ _ _
      have nz_q23 : h q23 = none := knone (zk_pub (zk_new (zk_rf (fun _ => False) h) eh7 nq7) eh15 nz_q7) nq23
      refine v_dup C dX4_number_57 rfl ?_
      refine v_iconst (v := 1) C dX4_number_58 (by decide) ?_
      refine v_iconst (v := (-1)) C dX4_number_59 (by decide) ?_
      refine v_ldcS (tx := "") C rfl (by decide) dX4_number_60 ?_
      refine v_iload_n C 2 rfl dX4_number_62 rfl ?_
      refine v_callS (rest := [.int (-1), .int 1, .ref q23, .ref q23, .ref x]) C (c_X4_numbered_0 l hl G j2 h23 (by omega)) S_X4_73 rfl rfl (Nat.le_of_ble_eq_true rfl) ⟨Nat.le_of_ble_eq_true rfl, Nat.le_of_ble_eq_true rfl⟩ ⟨Nat.le_of_ble_eq_true rfl, Nat.le_of_ble_eq_true rfl⟩ dX4_number_63 (fun r32 h32 w32 => ?_)
      obtain ⟨nr32, kp32, tb32, gf32, nb32, tx32, tt32, ts32, tf32⟩ := w32
      have nz_r32 : h r32 = none := knone (zk_new (zk_pub (zk_new (zk_rf (fun _ => False) h) eh7 nq7) eh15 nz_q7) eh23 nq23) nr32
      have nz_tb32 : h tb32 = none := knone (zk_new (zk_pub (zk_new (zk_rf (fun _ => False) h) eh7 nq7) eh15 nz_q7) eh23 nq23) nb32
      have k33 : h32 x = some (.inr (7, [.ref (qA g 1 0), .ref (qA g 14 0), .ref (qA g 14 1), .ref (qA g 14 2), .ref (qA g 14 3)])) := kp32 _ _ id k24
      have k34 : h32 (qA g 1 0) = some (.inl (gc G 7, 6, .inr (.inr (.inr (.inr fo))))) := kp32 _ _ id k25
      have k35 : h32 (qA g 14 0) = some (.inr (2, [.int mo0, .ref (qA g 15 0), .int (nI (qS g).length)])) := kp32 _ _ id k26
      have k36 : h32 (qA g 14 1) = some (.inr (2, [.int mo1, .ref (qA g 15 1), .int (nI ((List.range (oN s)).map (qA g 3)).length)])) := kp32 _ _ id k27
      have k37 : h32 (qA g 14 2) = some (.inr (2, [.int mo2, .ref (qA g 15 2), .int (nI ((List.range (rN s)).map (qA g 6)).length)])) := kp32 _ _ id k28
      have k38 : h32 (qA g 14 3) = some (.inr (2, [.int mo3, .ref (qA g 15 3), .int (nI ((List.range (bN s)).map (qA g 10)).length)])) := kp32 _ _ id k29
      have k39 : h32 q7 = some (.inl (gc G 1, 20, .inr (.inl f15))) := kp32 _ _ id k30
      have k40 : h32 q23 = some (.inr (4, [.int 0, .int 0, .null, .null, .int 0, .int 0, .null, .null])) := kp32 _ _ id k31
      refine v_aload_n C 0 rfl dX4_number_66 rfl ?_
      refine v_callI (rest := [.ref q23, .ref x]) C (c_X1_init l hl G q23 r32 q7 1 (-1) h32 k40) I_X4_77 rfl rfl (Nat.le_of_ble_eq_true rfl) ⟨Nat.le_of_ble_eq_true rfl, Nat.le_of_ble_eq_true rfl⟩ ⟨Nat.le_of_ble_eq_true rfl, Nat.le_of_ble_eq_true rfl⟩ dX4_number_67 (fun h41 w41 => ?_)
      obtain ⟨hc41, kp41⟩ := w41
      have k42 : h41 x = some (.inr (7, [.ref (qA g 1 0), .ref (qA g 14 0), .ref (qA g 14 1), .ref (qA g 14 2), .ref (qA g 14 3)])) := kp41 _ _ (fun z => (zne_new nq23 k16) z) k33
      have k43 : h41 (qA g 1 0) = some (.inl (gc G 7, 6, .inr (.inr (.inr (.inr fo))))) := kp41 _ _ (fun z => (zne_new nq23 k17) z) k34
      have k44 : h41 (qA g 14 0) = some (.inr (2, [.int mo0, .ref (qA g 15 0), .int (nI (qS g).length)])) := kp41 _ _ (fun z => (zne_new nq23 k18) z) k35
      have k45 : h41 (qA g 14 1) = some (.inr (2, [.int mo1, .ref (qA g 15 1), .int (nI ((List.range (oN s)).map (qA g 3)).length)])) := kp41 _ _ (fun z => (zne_new nq23 k19) z) k36
      have k46 : h41 (qA g 14 2) = some (.inr (2, [.int mo2, .ref (qA g 15 2), .int (nI ((List.range (rN s)).map (qA g 6)).length)])) := kp41 _ _ (fun z => (zne_new nq23 k20) z) k37
      have k47 : h41 (qA g 14 3) = some (.inr (2, [.int mo3, .ref (qA g 15 3), .int (nI ((List.range (bN s)).map (qA g 10)).length)])) := kp41 _ _ (fun z => (zne_new nq23 k21) z) k38
      have k48 : h41 q7 = some (.inl (gc G 1, 20, .inr (.inl f15))) := kp41 _ _ (fun z => (zne_new nq23 k22) z) k39
      have k49 : h41 r32 = some (.inr (0, [.ref tb32, .int 0, .int 0, .int 0])) := kp41 _ _ (fun z => (Ne.symm (zne_new nr32 k31)) z) tx32
      have k50 : h41 tb32 = some (.inl (gc G 2, (dgl j2).length, .inl gf32)) := kp41 _ _ (fun z => (zne_oi k40 tt32) z) tt32
      refine v_ge C (fun hgW => ?_)
      have kpa := (zk_call (zk_call (zk_new (zk_pub (zk_new (zk_rf (fun _ => False) h) eh7 nq7) eh15 nz_q7) eh23 nq23) kp32 (fun _ _ _ _ z => z)) kp41 (fun b e hb _ z => by rw [z, nz_q23] at hb; cases hb))
      have alW := al_kp hL0.1 kpa
      refine v_callV (rest := []) C (c_X4_push l hl G x (qA g 1 0) (qA g 14 0) (qA g 14 1) (qA g 14 2) (qA g 14 3) q23 (qA g 15 0) (qS g) _ h41 k42 alW (by omega) hc41 (x_ar hO hL0 hg).1 (x_ar hO hL0 hg).2) K_X4_80 k42 rfl rfl (Nat.le_of_ble_eq_true rfl) ⟨Nat.le_of_ble_eq_true rfl, Nat.le_of_ble_eq_true rfl⟩ ⟨Nat.le_of_ble_eq_true rfl, Nat.le_of_ble_eq_true rfl⟩ dX4_number_70 (fun i51 h51 w51 => ?_)
      obtain ⟨ei51, ar51, al51, zs51⟩ := w51; subst ei51
      refine v_ge C (fun hg2 => ?_)
      refine v_eqi (congrArg (fun z => nI (z + 1)) eS.symm) ?_
      have ek : (kNumber s (nI j2)) = 0 := by simp [kNumber, inN, wth, c1, z6]
      have hcq := stn hL0.1 hgW zs51 nz_q23 hc41
      have hct := stn hL0.1 hgW zs51 nz_r32 k49
      have hcb := stn hL0.1 hgW zs51 nz_tb32 k50
      have hrw := stn hL0.1 hgW zs51 nz_q7 k48
      have hgl : (-1) = gI (gtk [(5, j2)]) := (show (-1 : Int32) = gI 0 by decide)
      rw [hgl] at hcq
      exact v_iret C hQ hr rfl (Nat.le_of_ble_eq_true rfl) (Nat.le_of_ble_eq_true rfl) dX4_number_73 ⟨ek, rfl, (by show XQ G h _ g x (s.1, oS s ++ [([(5, cl (nI j2))], 1)], s.2.2); rw [eCv, hS.2]; exact XI.node (tb := tb32) (kd := 4) (p := 0) (a3 := 0) (a4 := 0) (t := [(5, j2)]) (lv := 1) (base := qS g) hi hg hg2 (zSt.pre kpa zs51) al51 (fun _ ha => ha) nz_q23 nz_r32 nz_tb32 hcq hct hcb ts32 tf32 (by decide) (by decide) (Or.inr (Or.inl ⟨j2, hj2, rfl⟩)) (Nat.zero_le _) (Or.inl ⟨rfl, rfl, rfl, rfl, Or.inr (Or.inl ⟨j2, hj2, gN_T, gN_L, (by rw [gN_N]; exact gN_row hcq hct hcb al51 hrw nz_q7), _, (by rw [gN_N]; exact hrw), kv15⟩)⟩))⟩
    · have c5 := (nk_lt_f (a := (oS s).length) 8 (by decide) (by omega) (by decide)).mp c5
      have z52 : (oS s).length = 8 := by omega
      have ek : (kNumber s (nI j2)) = 2 := by simp [kNumber, inN, wth, c1, z52]
      exact v_throwS C (TH_64 (i := 66) (tx := "the stack is full") (by decide)) hto dX4_number_32 dX4_number_35 dX4_number_36 dX4_number_38 dX4_number_41 (Nat.le_of_ble_eq_true rfl) (Nat.le_of_ble_eq_true rfl) ⟨Nat.le_of_ble_eq_true rfl, Nat.le_of_ble_eq_true rfl⟩ ⟨Nat.le_of_ble_eq_true rfl, Nat.le_of_ble_eq_true rfl⟩ ⟨rfl, Or.inr (⟨ek, rfl⟩)⟩
  · rw [zb_f c1] at e1; subst e1
    refine v_if_ne (tgt := 20) C dX4_number_7 (by decide) (fun c54 => absurd c54 (by decide)) (fun c54 => ?_)
    have ek : (kNumber s v) = 1 := by simp [kNumber, inN, wth, c1]
    exact v_throwS C (TH_50 (i := 84) (tx := "the number is out of its range") (by decide)) hto dX4_number_10 dX4_number_13 dX4_number_14 dX4_number_16 dX4_number_19 (Nat.le_of_ble_eq_true rfl) (Nat.le_of_ble_eq_true rfl) ⟨Nat.le_of_ble_eq_true rfl, Nat.le_of_ble_eq_true rfl⟩ ⟨Nat.le_of_ble_eq_true rfl, Nat.le_of_ble_eq_true rfl⟩ ⟨rfl, Or.inl ⟨ek, rfl⟩⟩
set_option maxHeartbeats 4000000 in
set_option maxRecDepth 100000 in
theorem c_X4_term (l : Launch) (hl : l.stackTraces = false) (G : zG) (x : Nat) (g : XGh) (s : ZS) (t : Int32) (h : zH) (hi : XI G h g x s) (hw : WFs s)  : zMetX eI l yX4_term cX4_term 3 (some .int) 19 10 8000 G [.ref x, .int t] h (fun res h2 => (kTerm s t) = 0 ∧ res = nI ((oS s).length + 1) ∧ XQ G h h2 g x (nPush s ([(6, cl t)], oL s (cl t) + 1))) (fun E h2 => h2 = h ∧ (((kTerm s t) = 1 ∧ E = "java/lang/IndexOutOfBoundsException") ∨ ((kTerm s t) = 2 ∧ E = "java/lang/IllegalStateException"))) := by
  refine con_ofX hl RX4 rfl (by decide +kernel) [(0, .ref x), (1, .int t)] rfl (Nat.le_of_ble_eq_true rfl) ?_
  intro zp ze zs zm zargs zbelow zmeth zc C hr hin hto hQ
  obtain ⟨⟨hO, hA, ⟨hL0, hL1, hL2, hL3⟩, hS, hN, hT, hR, hB⟩, hV⟩ := id hi
  obtain ⟨mo0, hmo0⟩ := hL0.1.2.1
  obtain ⟨mo1, hmo1⟩ := hL1.1.2.1
  obtain ⟨mo2, hmo2⟩ := hL2.1.2.1
  obtain ⟨mo3, hmo3⟩ := hL3.1.2.1
  obtain ⟨fo, to, qo⟩ := hO.2.2.2
  have eS : (oS s).length = (qS g).length := by rw [hS.2, List.length_map]
  have hw2 : (oS s).length ≤ 8 := hw.1
  have hw7 : oN s ≤ 10 := hw.2.2.1.1
  have hw17 : rN s ≤ 6 := hw.2.2.2.2.1.1
  have hw25 : bN s ≤ 6 := hw.2.2.2.2.2.1
  refine v_ge C (fun hg => ?_)
  refine v_aload_n C 0 rfl dX4_term_0 rfl ?_
  refine v_iload_n C 1 rfl dX4_term_1 rfl ?_
  refine v_callV (rest := []) C (c_X4_isTerm l hl G x (qA g 1 0) (qA g 14 0) (qA g 14 1) (qA g 14 2) (qA g 14 3) (qA g 15 1) ((List.range (oN s)).map (qA g 3)) t h hO.1 hL1.1) K_X4_94 hO.1 rfl rfl (Nat.le_of_ble_eq_true rfl) ⟨Nat.le_of_ble_eq_true rfl, Nat.le_of_ble_eq_true rfl⟩ ⟨Nat.le_of_ble_eq_true rfl, Nat.le_of_ble_eq_true rfl⟩ dX4_term_2 (fun i1 h1 q1 => ?_)
  obtain ⟨e1, rfl⟩ := q1; rw [mr_len] at e1
  by_cases c1 : inN t (oN s)
  · rw [zb_t c1] at e1; subst e1
    obtain ⟨j2, hj2, en2⟩ := inN.nat c1 (by omega)
    subst en2
    have eCt : cl (nI j2) = j2 := cl_nI (by omega)
    obtain ⟨r3T, r4T, r5T, t3T, ⟨fdT, t4T, hdfT⟩, -⟩ := hT j2 (by omega)
    obtain ⟨vT, t5T, qvT⟩ := hV j2 (by omega)
    obtain ⟨oL1, oL6, -⟩ := hw.2.2.1.2.1 j2 (by omega)
    refine v_if_ne (tgt := 18) C dX4_term_5 (by decide) (fun c3 => ?_) (fun c3 => absurd c3 (by decide))
    refine v_aload_n C 0 rfl dX4_term_18 rfl ?_
    refine v_get (v := .ref (qA g 14 1)) C F_X4_21 hO.1 rfl dX4_term_19 ?_
    refine v_iload_n C 1 rfl dX4_term_22 rfl ?_
    refine v_callV (rest := []) C (c_Jx4a65c_get_915e3 l hl G (qA g 14 1) (qA g 15 1) ((List.range (oN s)).map (qA g 3)) j2 h hL1.1 (by rw [mr_len]; omega)) K_X4_99 hmo1 rfl rfl (Nat.le_of_ble_eq_true rfl) ⟨Nat.le_of_ble_eq_true rfl, Nat.le_of_ble_eq_true rfl⟩ ⟨Nat.le_of_ble_eq_true rfl, Nat.le_of_ble_eq_true rfl⟩ dX4_term_23 (fun i4 h4 q4 => ?_)
    obtain ⟨e4, rfl⟩ := q4; rw [mr_get (show j2 < (oN s) by omega)] at e4; subst e4
    refine v_chk C CA_X4_103 t3T dX4_term_26 ?_
    refine v_astore_n C [(2, .ref (qA g 3 j2)), (0, .ref x), (1, .int (nI j2))] rfl (by decide) dX4_term_29 rfl ?_
    refine v_aload_n C 1 rfl dX4_term_30 rfl ?_
    refine v_get (v := .ref (qA g 14 0)) C F_X4_17 hO.1 rfl dX4_term_31 ?_
    refine v_callV (rest := []) C (c_Jx4a65c_size_8abf5 l hl G (qA g 14 0) (qA g 15 0) (qS g) h hL0.1) K_X4_60 hmo0 rfl rfl (Nat.le_of_ble_eq_true rfl) ⟨Nat.le_of_ble_eq_true rfl, Nat.le_of_ble_eq_true rfl⟩ ⟨Nat.le_of_ble_eq_true rfl, Nat.le_of_ble_eq_true rfl⟩ dX4_term_34 (fun i5 h5 q5 => ?_)
    obtain ⟨e5, rfl⟩ := q5; subst e5
    refine v_eqi (congrArg nI eS.symm) ?_
    refine v_bipush (v := 8) C dX4_term_37 (by decide) ?_
    refine v_icmp_ge (tgt := 51) C dX4_term_39 (by decide) (fun c6 => ?_) (fun c6 => ?_)
    · have c6 := (nk_ge (a := (oS s).length) 8 (by decide) (by omega) (by decide)).mp c6
      have z7 : (oS s).length = 8 := by omega
      have ek : (kTerm s (nI j2)) = 2 := by simp [kTerm, inN, c1, z7, eCt]
      exact v_throwS C (TH_64 (i := 109) (tx := "the stack is full, or the term's level is the highest") (by decide)) hto dX4_term_51 dX4_term_54 dX4_term_55 dX4_term_57 dX4_term_60 (Nat.le_of_ble_eq_true rfl) (Nat.le_of_ble_eq_true rfl) ⟨Nat.le_of_ble_eq_true rfl, Nat.le_of_ble_eq_true rfl⟩ ⟨Nat.le_of_ble_eq_true rfl, Nat.le_of_ble_eq_true rfl⟩ ⟨rfl, Or.inr (⟨ek, rfl⟩)⟩
    · have c6 := (nk_ge_f (a := (oS s).length) 8 (by decide) (by omega) (by decide)).mp c6
      have z9 : ¬ (oS s).length = 8 := by omega
      refine v_aload_n C 0 rfl dX4_term_42 rfl ?_
      refine v_get (v := .int (nI (oL s j2))) C F_X4_105 t3T rfl dX4_term_43 ?_
      refine v_bipush (v := 6) C dX4_term_46 (by decide) ?_
      refine v_icmp_lt (tgt := 61) C dX4_term_48 (by decide) (fun c10 => ?_) (fun c10 => ?_)
      · have c10 := (nk_lt (a := (oL s j2)) 6 (by decide) (by omega) (by decide)).mp c10
        have z11 : ¬ oL s j2 = 6 := by omega
        refine v_aload_n C 1 rfl dX4_term_61 rfl ?_
        refine v_new C N_X4_69 (Nat.le_of_ble_eq_true rfl) (Nat.le_of_ble_eq_true rfl) dX4_term_62 (fun q12 gq12 nq12 => v_nw (fun h12 eh12 => ?_))
        have k13 : h12 x = some (.inr (7, [.ref (qA g 1 0), .ref (qA g 14 0), .ref (qA g 14 1), .ref (qA g 14 2), .ref (qA g 14 3)])) := by rw [eh12, zup_ne _ _ (zne_new nq12 hO.1)]; exact hO.1
        have k14 : h12 (qA g 1 0) = some (.inl (gc G 7, 6, .inr (.inr (.inr (.inr fo))))) := by rw [eh12, zup_ne _ _ (zne_new nq12 to)]; exact to
        have k15 : h12 (qA g 14 0) = some (.inr (2, [.int mo0, .ref (qA g 15 0), .int (nI (qS g).length)])) := by rw [eh12, zup_ne _ _ (zne_new nq12 hmo0)]; exact hmo0
        have k16 : h12 (qA g 14 1) = some (.inr (2, [.int mo1, .ref (qA g 15 1), .int (nI ((List.range (oN s)).map (qA g 3)).length)])) := by rw [eh12, zup_ne _ _ (zne_new nq12 hmo1)]; exact hmo1
        have k17 : h12 (qA g 14 2) = some (.inr (2, [.int mo2, .ref (qA g 15 2), .int (nI ((List.range (rN s)).map (qA g 6)).length)])) := by rw [eh12, zup_ne _ _ (zne_new nq12 hmo2)]; exact hmo2
        have k18 : h12 (qA g 14 3) = some (.inr (2, [.int mo3, .ref (qA g 15 3), .int (nI ((List.range (bN s)).map (qA g 10)).length)])) := by rw [eh12, zup_ne _ _ (zne_new nq12 hmo3)]; exact hmo3
        have k19 : h12 (qA g 3 j2) = some (.inr (6, [.int (nI (oL s j2)), .ref (qA g 4 j2), .int (nI (cnt (fun z => (oD s j2 z).isSome) 20)), .ref (qA g 5 j2)])) := by rw [eh12, zup_ne _ _ (zne_new nq12 t3T)]; exact t3T
        have k20 : h12 (qA g 4 j2) = some (.inl (gc G 6, 20, .inr (.inr (.inr (.inr fdT))))) := by rw [eh12, zup_ne _ _ (zne_new nq12 t4T)]; exact t4T
        have k21 : h12 (qA g 5 j2) = some (.inl (gc G 1, 20, .inr (.inl vT))) := by rw [eh12, zup_ne _ _ (zne_new nq12 t5T)]; exact t5T
        have k22 : h12 q12 = some (.inr (4, [.int 0, .int 0, .null, .null, .int 0, .int 0, .null, .null])) := by rw [eh12]; exact zup_self _ _ _
        have nz_q12 : h q12 = none := knone (zk_rf (fun _ => False) h) nq12
        refine v_dup C dX4_term_65 rfl ?_
        refine v_aload_n C 0 rfl dX4_term_66 rfl ?_
        refine v_get (v := .int (nI (oL s j2))) C F_X4_105 k19 rfl dX4_term_67 ?_
        refine v_iconst (v := 1) C dX4_term_70 (by decide) ?_
        refine v_iadd C dX4_term_71 (v_eqi (nI_adk (oL s j2) 1 (by decide)) ?_)
        refine v_iload_n C 2 rfl dX4_term_72 rfl ?_
        refine v_ldcS (tx := "T") C rfl (by decide) dX4_term_73 ?_
        refine v_iload_n C 2 rfl dX4_term_75 rfl ?_
        refine v_callS (rest := [.int (nI j2), .int (nI ((oL s j2) + 1)), .ref q12, .ref q12, .ref x]) C (c_X4_numbered_T l hl G j2 h12 (by omega)) S_X4_73 rfl rfl (Nat.le_of_ble_eq_true rfl) ⟨Nat.le_of_ble_eq_true rfl, Nat.le_of_ble_eq_true rfl⟩ ⟨Nat.le_of_ble_eq_true rfl, Nat.le_of_ble_eq_true rfl⟩ dX4_term_76 (fun r24 h24 w24 => ?_)
        obtain ⟨nr24, kp24, tb24, gf24, nb24, tx24, tt24, ts24, tf24⟩ := w24
        have nz_r24 : h r24 = none := knone (zk_new (zk_rf (fun _ => False) h) eh12 nq12) nr24
        have nz_tb24 : h tb24 = none := knone (zk_new (zk_rf (fun _ => False) h) eh12 nq12) nb24
        have k25 : h24 x = some (.inr (7, [.ref (qA g 1 0), .ref (qA g 14 0), .ref (qA g 14 1), .ref (qA g 14 2), .ref (qA g 14 3)])) := kp24 _ _ id k13
        have k26 : h24 (qA g 1 0) = some (.inl (gc G 7, 6, .inr (.inr (.inr (.inr fo))))) := kp24 _ _ id k14
        have k27 : h24 (qA g 14 0) = some (.inr (2, [.int mo0, .ref (qA g 15 0), .int (nI (qS g).length)])) := kp24 _ _ id k15
        have k28 : h24 (qA g 14 1) = some (.inr (2, [.int mo1, .ref (qA g 15 1), .int (nI ((List.range (oN s)).map (qA g 3)).length)])) := kp24 _ _ id k16
        have k29 : h24 (qA g 14 2) = some (.inr (2, [.int mo2, .ref (qA g 15 2), .int (nI ((List.range (rN s)).map (qA g 6)).length)])) := kp24 _ _ id k17
        have k30 : h24 (qA g 14 3) = some (.inr (2, [.int mo3, .ref (qA g 15 3), .int (nI ((List.range (bN s)).map (qA g 10)).length)])) := kp24 _ _ id k18
        have k31 : h24 (qA g 3 j2) = some (.inr (6, [.int (nI (oL s j2)), .ref (qA g 4 j2), .int (nI (cnt (fun z => (oD s j2 z).isSome) 20)), .ref (qA g 5 j2)])) := kp24 _ _ id k19
        have k32 : h24 (qA g 4 j2) = some (.inl (gc G 6, 20, .inr (.inr (.inr (.inr fdT))))) := kp24 _ _ id k20
        have k33 : h24 (qA g 5 j2) = some (.inl (gc G 1, 20, .inr (.inl vT))) := kp24 _ _ id k21
        have k34 : h24 q12 = some (.inr (4, [.int 0, .int 0, .null, .null, .int 0, .int 0, .null, .null])) := kp24 _ _ id k22
        refine v_aload_n C 0 rfl dX4_term_79 rfl ?_
        refine v_get (v := .ref (qA g 5 j2)) C F_X4_113 k31 rfl dX4_term_80 ?_
        refine v_callI (rest := [.ref q12, .ref x]) C (c_X1_init l hl G q12 r24 (qA g 5 j2) (nI ((oL s j2) + 1)) (nI j2) h24 k34) I_X4_77 rfl rfl (Nat.le_of_ble_eq_true rfl) ⟨Nat.le_of_ble_eq_true rfl, Nat.le_of_ble_eq_true rfl⟩ ⟨Nat.le_of_ble_eq_true rfl, Nat.le_of_ble_eq_true rfl⟩ dX4_term_83 (fun h35 w35 => ?_)
        obtain ⟨hc35, kp35⟩ := w35
        have k36 : h35 x = some (.inr (7, [.ref (qA g 1 0), .ref (qA g 14 0), .ref (qA g 14 1), .ref (qA g 14 2), .ref (qA g 14 3)])) := kp35 _ _ (fun z => (zne_new nq12 hO.1) z) k25
        have k37 : h35 (qA g 1 0) = some (.inl (gc G 7, 6, .inr (.inr (.inr (.inr fo))))) := kp35 _ _ (fun z => (zne_new nq12 to) z) k26
        have k38 : h35 (qA g 14 0) = some (.inr (2, [.int mo0, .ref (qA g 15 0), .int (nI (qS g).length)])) := kp35 _ _ (fun z => (zne_new nq12 hmo0) z) k27
        have k39 : h35 (qA g 14 1) = some (.inr (2, [.int mo1, .ref (qA g 15 1), .int (nI ((List.range (oN s)).map (qA g 3)).length)])) := kp35 _ _ (fun z => (zne_new nq12 hmo1) z) k28
        have k40 : h35 (qA g 14 2) = some (.inr (2, [.int mo2, .ref (qA g 15 2), .int (nI ((List.range (rN s)).map (qA g 6)).length)])) := kp35 _ _ (fun z => (zne_new nq12 hmo2) z) k29
        have k41 : h35 (qA g 14 3) = some (.inr (2, [.int mo3, .ref (qA g 15 3), .int (nI ((List.range (bN s)).map (qA g 10)).length)])) := kp35 _ _ (fun z => (zne_new nq12 hmo3) z) k30
        have k42 : h35 (qA g 3 j2) = some (.inr (6, [.int (nI (oL s j2)), .ref (qA g 4 j2), .int (nI (cnt (fun z => (oD s j2 z).isSome) 20)), .ref (qA g 5 j2)])) := kp35 _ _ (fun z => (zne_new nq12 t3T) z) k31
        have k43 : h35 (qA g 4 j2) = some (.inl (gc G 6, 20, .inr (.inr (.inr (.inr fdT))))) := kp35 _ _ (fun z => (zne_new nq12 t4T) z) k32
        have k44 : h35 (qA g 5 j2) = some (.inl (gc G 1, 20, .inr (.inl vT))) := kp35 _ _ (fun z => (zne_new nq12 t5T) z) k33
        have k45 : h35 r24 = some (.inr (0, [.ref tb24, .int 0, .int 0, .int 0])) := kp35 _ _ (fun z => (Ne.symm (zne_new nr24 k22)) z) tx24
        have k46 : h35 tb24 = some (.inl (gc G 2, ([84] ++ dgl j2).length, .inl gf24)) := kp35 _ _ (fun z => (zne_oi k34 tt24) z) tt24
        refine v_ge C (fun hgW => ?_)
        have kpa := (zk_call (zk_call (zk_new (zk_rf (fun _ => False) h) eh12 nq12) kp24 (fun _ _ _ _ z => z)) kp35 (fun b e hb _ z => by rw [z, nz_q12] at hb; cases hb))
        have alW := al_kp hL0.1 kpa
        refine v_callV (rest := []) C (c_X4_push l hl G x (qA g 1 0) (qA g 14 0) (qA g 14 1) (qA g 14 2) (qA g 14 3) q12 (qA g 15 0) (qS g) _ h35 k36 alW (by omega) hc35 (x_ar hO hL0 hg).1 (x_ar hO hL0 hg).2) K_X4_80 k36 rfl rfl (Nat.le_of_ble_eq_true rfl) ⟨Nat.le_of_ble_eq_true rfl, Nat.le_of_ble_eq_true rfl⟩ ⟨Nat.le_of_ble_eq_true rfl, Nat.le_of_ble_eq_true rfl⟩ dX4_term_86 (fun i47 h47 w47 => ?_)
        obtain ⟨ei47, ar47, al47, zs47⟩ := w47; subst ei47
        refine v_ge C (fun hg2 => ?_)
        refine v_eqi (congrArg (fun z => nI (z + 1)) eS.symm) ?_
        have ek : (kTerm s (nI j2)) = 0 := by simp [kTerm, inN, c1, z9, z11, eCt]
        have hcq := stn hL0.1 hgW zs47 nz_q12 hc35
        have hct := stn hL0.1 hgW zs47 nz_r24 k45
        have hcb := stn hL0.1 hgW zs47 nz_tb24 k46
        have hgl : (nI j2) = gI (gtk [(6, j2)]) := (by show nI j2 = gI (max (j2 + 1) 0); rw [Nat.max_eq_left (Nat.zero_le _)]; exact gI_s _)
        rw [hgl] at hcq
        exact v_iret C hQ hr rfl (Nat.le_of_ble_eq_true rfl) (Nat.le_of_ble_eq_true rfl) dX4_term_89 ⟨ek, rfl, (by show XQ G h _ g x (s.1, oS s ++ [([(6, cl (nI j2))], oL s (cl (nI j2)) + 1)], s.2.2); rw [eCt, hS.2]; exact XI.node (tb := tb24) (kd := 4) (p := 0) (a3 := 0) (a4 := 0) (t := [(6, j2)]) (lv := (oL s j2 + 1)) (base := qS g) hi hg hg2 (zSt.pre kpa zs47) al47 (fun _ ha => ha) nz_q12 nz_r24 nz_tb24 hcq hct hcb ts24 tf24 (by omega) (by omega) (Or.inr (Or.inr (Or.inl ⟨j2, by omega, Nat.le_refl _, oL1, rfl⟩))) (by show max (j2 + 1) 0 ≤ oN s; omega) (Or.inl ⟨rfl, rfl, rfl, rfl, Or.inr (Or.inr ⟨j2, by omega, gN_T, gN_L, by rw [gN_N, gN_A (by simp)]; rfl⟩)⟩))⟩
      · have c10 := (nk_lt_f (a := (oL s j2)) 6 (by decide) (by omega) (by decide)).mp c10
        have z48 : oL s j2 = 6 := by omega
        have ek : (kTerm s (nI j2)) = 2 := by simp [kTerm, inN, c1, z9, z48, eCt]
        exact v_throwS C (TH_64 (i := 109) (tx := "the stack is full, or the term's level is the highest") (by decide)) hto dX4_term_51 dX4_term_54 dX4_term_55 dX4_term_57 dX4_term_60 (Nat.le_of_ble_eq_true rfl) (Nat.le_of_ble_eq_true rfl) ⟨Nat.le_of_ble_eq_true rfl, Nat.le_of_ble_eq_true rfl⟩ ⟨Nat.le_of_ble_eq_true rfl, Nat.le_of_ble_eq_true rfl⟩ ⟨rfl, Or.inr (⟨ek, rfl⟩)⟩
  · rw [zb_f c1] at e1; subst e1
    refine v_if_ne (tgt := 18) C dX4_term_5 (by decide) (fun c50 => absurd c50 (by decide)) (fun c50 => ?_)
    have ek : (kTerm s t) = 1 := by simp [kTerm, inN, c1]
    exact v_throwS C (TH_37 (i := 97) (tx := "no such term") (by decide)) hto dX4_term_8 dX4_term_11 dX4_term_12 dX4_term_14 dX4_term_17 (Nat.le_of_ble_eq_true rfl) (Nat.le_of_ble_eq_true rfl) ⟨Nat.le_of_ble_eq_true rfl, Nat.le_of_ble_eq_true rfl⟩ ⟨Nat.le_of_ble_eq_true rfl, Nat.le_of_ble_eq_true rfl⟩ ⟨rfl, Or.inl ⟨ek, rfl⟩⟩
set_option maxHeartbeats 4000000 in
set_option maxRecDepth 100000 in
theorem c_X4_terms (l : Launch) (hl : l.stackTraces = false) (G : zG) (x : Nat) (g : XGh) (s : ZS) (h : zH) (hi : XI G h g x s) : zMet eI l yX4_terms cX4_terms 1 (some .int) 13 0 0 G [.ref x] h (fun r h2 => r = nI (oN s) ∧ h = h2) := by
  refine con_of hl RX4 rfl (by decide +kernel) [(0, .ref x)] rfl (Nat.le_of_ble_eq_true rfl) ?_
  intro zp ze zs zm zargs zbelow zmeth zc C hr hin Q hQ
  obtain ⟨⟨hO, hA, ⟨hL0, hL1, hL2, hL3⟩, hS, hN, hT, hR, hB⟩, hV⟩ := id hi
  obtain ⟨mo0, hmo0⟩ := hL0.1.2.1
  obtain ⟨mo1, hmo1⟩ := hL1.1.2.1
  obtain ⟨mo2, hmo2⟩ := hL2.1.2.1
  obtain ⟨mo3, hmo3⟩ := hL3.1.2.1
  refine v_aload_n C 0 rfl dX4_terms_0 rfl ?_
  refine v_get (v := .ref (qA g 14 1)) C F_X4_21 hO.1 rfl dX4_terms_1 ?_
  refine v_callV (rest := []) C (c_Jx4a65c_size_8abf5 l hl G (qA g 14 1) (qA g 15 1) ((List.range (oN s)).map (qA g 3)) h hL1.1) K_X4_60 hmo1 rfl rfl (Nat.le_of_ble_eq_true rfl) ⟨Nat.le_of_ble_eq_true rfl, Nat.le_of_ble_eq_true rfl⟩ ⟨Nat.le_of_ble_eq_true rfl, Nat.le_of_ble_eq_true rfl⟩ dX4_terms_4 (fun i1 h1 q1 => ?_)
  obtain ⟨e1, rfl⟩ := q1; subst e1
  refine v_eqi (congrArg nI mr_len) ?_
  exact v_iret C hQ hr rfl (Nat.le_of_ble_eq_true rfl) (Nat.le_of_ble_eq_true rfl) dX4_terms_7 ⟨rfl, rfl⟩

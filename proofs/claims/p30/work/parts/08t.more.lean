set_option maxHeartbeats 8000000 in
set_option maxRecDepth 100000 in
theorem law_amend {zp : Program} {l : Launch} {ze : Env} {zs : State} {zm : MethodId} {zargs : Array Value} {zbelow : List Frame} {zmeth : Method} {zc : Code} {G : zG} (hl : l.stackTraces = false) (C : zOK zp l ze room_1 zs zm zargs zbelow zmeth zc G cL_law 29 RL) (hNc : zNc zs) {Q : State → Prop} {sb t0 : Nat} {h : zH} {g : XGh} {x : Nat} {ad : Nat → Nat} {s : ZS} {F : Nat → Nat} {A D : Nat → Int32} {VV : Nat → Nat} {B U : Nat → Int32} {S : Nat → Nat} {T : Nat → List Tok} {lv : Nat → Nat} {N : Nat} (cs sl : Nat) (hcs : cs + 1300 ≤ 670155) (hsl : sl + 45000 ≤ 7091004) (q tm ts up : Nat) (x0 y0 : Int32)  (li : LI G h g x ad s F A D VV B U S T lv N (700 * t0)) (ht0 : t0 < 60) (hq : q < 9) (htm : tm < oN s ∨ (oN s = 0 ∧ tm = 0)) (hts : ts < rN s ∨ (rN s = 0 ∧ ts = 0)) (hup : 0 < (oS s).length → up = S ((oS s).length - 1))  (chk : ∀ (h2 : zH) (g2 : XGh) (s2 : ZS) (F2 : Nat → Nat) (A2 D2 : Nat → Int32) (VV2 : Nat → Nat) (B2 U2 : Nat → Int32) (S2 : Nat → Nat) (T2 : Nat → List Tok) (lv2 : Nat → Nat) (N2 : Nat), LI G h2 g2 x ad s2 F2 A2 D2 VV2 B2 U2 S2 T2 lv2 N2 (700 * (t0 + 1)) → V zp l ze room_1 zs zm zargs zbelow zmeth zc G 29 Q h2 (cs + 200) (sl + 20000) 2268 [(20, .int (nI q)), (16, .int y0), (14, .int (nI t0)), (13, .int (nI (bN s2))), (12, .int (nI (rN s2))), (11, .int (nI (oN s2))), (10, .int (nI (oS s2).length)), (9, .int (nI N2)), (8, .ref (ad 6)), (7, .ref (ad 5)), (6, .ref (ad 4)), (5, .ref (ad 3)), (4, .ref (ad 2)), (3, .ref (ad 1)), (2, .ref (ad 0)), (1, .ref x), (0, .ref sb)] []) (next : ∀ (h2 : zH) (g2 : XGh) (s2 : ZS) (F2 : Nat → Nat) (A2 D2 : Nat → Int32) (VV2 : Nat → Nat) (B2 U2 : Nat → Int32) (S2 : Nat → Nat) (T2 : Nat → List Tok) (lv2 : Nat → Nat) (N2 : Nat), LI G h2 g2 x ad s2 F2 A2 D2 VV2 B2 U2 S2 T2 lv2 N2 (700 * (t0 + 1)) → V zp l ze room_1 zs zm zargs zbelow zmeth zc G 29 Q h2 (cs + 1300) (sl + 45000) 2313 [(14, .int (nI t0)), (13, .int (nI (bN s2))), (12, .int (nI (rN s2))), (11, .int (nI (oN s2))), (10, .int (nI (oS s2).length)), (9, .int (nI N2)), (8, .ref (ad 6)), (7, .ref (ad 5)), (6, .ref (ad 4)), (5, .ref (ad 3)), (4, .ref (ad 2)), (3, .ref (ad 1)), (2, .ref (ad 0)), (1, .ref x), (0, .ref sb)] []) : V zp l ze room_1 zs zm zargs zbelow zmeth zc G 29 Q h (cs) (sl) 1021 [(21, .int (nI up)), (20, .int (nI q)), (19, .int (nI ts)), (18, .int (nI tm)), (17, .int (nI 12)), (16, .int y0), (15, .int x0), (14, .int (nI t0)), (13, .int (nI (bN s))), (12, .int (nI (rN s))), (11, .int (nI (oN s))), (10, .int (nI (oS s).length)), (9, .int (nI N)), (8, .ref (ad 6)), (7, .ref (ad 5)), (6, .ref (ad 4)), (5, .ref (ad 3)), (4, .ref (ad 2)), (3, .ref (ad 1)), (2, .ref (ad 0)), (1, .ref x), (0, .ref sb)] [] := by
  obtain ⟨hi, hw, lx, he, hs, hV, hd, hT, hU⟩ := id li
  have hM := he.1
  have hN6 := he.2.1
  have hK8 := hw.1
  have hR2 := hT.1
  have hB2 := hU.1
  refine v_iload C 10 rfl dL_law_1021 ?_
  refine v_if_ne (tgt := 1030) C dL_law_1023 (by decide) (fun c1 => ?_) (fun c1 => ?_)
  · have c1 := (nk_ne (a := (oN s)) 0 (by decide) (by omega) (by decide)).mp c1
    refine v_iload C 11 rfl dL_law_1030 ?_
    refine v_if_eq (tgt := 1063) C dL_law_1032 (by decide) (fun c2 => ?_) (fun c2 => ?_)
    · have c2 := (nk_eq (a := (oS s).length) 0 (by decide) (by omega) (by decide)).mp c2
      refine v_iconst (v := 3) C dL_law_1063 (by decide) ?_
      refine v_goto (tgt := 1068) C dL_law_1064 (by decide) ?_
      refine v_istore C [(22, .int 3), (21, .int (nI up)), (20, .int (nI q)), (19, .int (nI ts)), (18, .int (nI tm)), (17, .int (nI 12)), (16, .int y0), (15, .int x0), (14, .int (nI t0)), (13, .int (nI (bN s))), (12, .int (nI (rN s))), (11, .int (nI (oN s))), (10, .int (nI (oS s).length)), (9, .int (nI N)), (8, .ref (ad 6)), (7, .ref (ad 5)), (6, .ref (ad 4)), (5, .ref (ad 3)), (4, .ref (ad 2)), (3, .ref (ad 1)), (2, .ref (ad 0)), (1, .ref x), (0, .ref sb)] rfl (by decide) dL_law_1068 ?_
      refine v_iload C 0 rfl dL_law_1070 ?_
      refine v_if_le (tgt := 1092) C dL_law_1072 (by decide) (fun c3 => absurd c3 (by decide)) (fun c3 => ?_)
      refine v_aload_n C 21 rfl dL_law_1075 rfl ?_
      refine v_iconst (v := 5) C dL_law_1076 (by decide) ?_
      refine v_iload C 4 rfl dL_law_1077 ?_
      refine v_iload C 2 rfl dL_law_1079 ?_
      refine v_iconst (v := 0) C dL_law_1081 (by decide) ?_
      refine v_callL (rest := []) C hNc (c_L_refused_amend_3 l hl G x g s (nI tm) (nI q) 0 h hi hw (c_am2 hN6 (by omega) (by omega) (Or.inl (by omega)))) CL_L_151 rfl rfl (Nat.le_of_ble_eq_true rfl) ⟨Nat.le_of_ble_eq_true rfl, Nat.le_of_ble_eq_true rfl⟩ ⟨by show cs + 20 ≤ 670155; omega, by show sl + 9000 ≤ 7091004; omega⟩ dL_law_1082 (fun r4 h4 w4 => ?_)
      obtain ⟨e4, rfl⟩ := w4; subst e4
      refine v_iload C 0 rfl dL_law_1085 ?_
      refine v_icmp_eq (tgt := 2313) C dL_law_1087 (by decide) (fun c5 => ?_) (fun c5 => absurd c5 (by decide))
      refine v_lvp [8, 9, 10, 11, 12, 13, 14, 15, 16, 17, 18, 19, 20, 21, 22] rfl ?_
      exact v_widen (by omega) (by omega) (next _ _ _ _ _ _ _ _ _ _ _ _ _ ⟨hi, hw, lx, li.2.2.2.mono (by omega)⟩)
    · have c2 := (nk_eq_f (a := (oS s).length) 0 (by decide) (by omega) (by decide)).mp c2
      obtain ⟨hupN, ht1⟩ := hs.top1 (by omega)
      rw [← hup (by omega)] at hupN ht1
      have hlu := he.2.2.1 up hupN
      have hlu6 := hlu.2.1
      have hlu1 := hlu.1
      have hL6 := (hw.2.2.1.2.1 tm (by omega)).2.1
      refine v_aload_n C 19 rfl dL_law_1035 rfl ?_
      refine v_iconst (v := 4) C dL_law_1036 (by decide) ?_
      refine v_iload C 0 rfl dL_law_1037 ?_
      refine v_imul C dL_law_1039 (v_eqi (nI_kml up 4 (by decide)) ?_)
      refine v_iconst (v := 3) C dL_law_1040 (by decide) ?_
      refine v_iadd C dL_law_1041 (v_eqi (nI_adk (4 * up) 3 (by decide)) ?_)
      refine v_iald C (lx.1.1) (vpin (show 4 * up + 3 < 60 by omega) (by decide)) dL_law_1042 (v_eqi (y := nI (lv up)) ((congrArg (fun j => nI (F j)) (nI_clamp (show 4 * up + 3 < 2 ^ 31 by omega))).trans (congrArg nI ((he.2.2.1 up hupN).2.2.1))) ?_)
      refine v_aload C 16 rfl dL_law_1043 ?_
      refine v_iload C 3 rfl dL_law_1045 ?_
      refine v_iald C (lx.1.2.2.2.1) (vpin (show tm < 6 by omega) (by decide)) dL_law_1047 (v_eqi (y := nI (oL s tm)) ((congrArg (fun j => nI (VV j)) (nI_clamp (show tm < 2 ^ 31 by omega))).trans (congrArg nI ((hV tm (by omega))))) ?_)
      refine v_icmp_gt (tgt := 1063) C dL_law_1048 (by decide) (fun c8 => ?_) (fun c8 => ?_)
      · have c8 := (nn_gt (a := (lv up)) (b := (oL s tm)) (by omega) (by omega)).mp c8
        refine v_iconst (v := 3) C dL_law_1063 (by decide) ?_
        refine v_goto (tgt := 1068) C dL_law_1064 (by decide) ?_
        refine v_istore C [(22, .int 3), (21, .int (nI up)), (20, .int (nI q)), (19, .int (nI ts)), (18, .int (nI tm)), (17, .int (nI 12)), (16, .int y0), (15, .int x0), (14, .int (nI t0)), (13, .int (nI (bN s))), (12, .int (nI (rN s))), (11, .int (nI (oN s))), (10, .int (nI (oS s).length)), (9, .int (nI N)), (8, .ref (ad 6)), (7, .ref (ad 5)), (6, .ref (ad 4)), (5, .ref (ad 3)), (4, .ref (ad 2)), (3, .ref (ad 1)), (2, .ref (ad 0)), (1, .ref x), (0, .ref sb)] rfl (by decide) dL_law_1068 ?_
        refine v_iload C 0 rfl dL_law_1070 ?_
        refine v_if_le (tgt := 1092) C dL_law_1072 (by decide) (fun c9 => absurd c9 (by decide)) (fun c9 => ?_)
        refine v_aload_n C 21 rfl dL_law_1075 rfl ?_
        refine v_iconst (v := 5) C dL_law_1076 (by decide) ?_
        refine v_iload C 4 rfl dL_law_1077 ?_
        refine v_iload C 2 rfl dL_law_1079 ?_
        refine v_iconst (v := 0) C dL_law_1081 (by decide) ?_
        refine v_callL (rest := []) C hNc (c_L_refused_amend_3 l hl G x g s (nI tm) (nI q) 0 h hi hw (c_am2 hN6 (by omega) (by omega) (Or.inr (Or.inl (by rw [ht1]; exact c8))))) CL_L_151 rfl rfl (Nat.le_of_ble_eq_true rfl) ⟨Nat.le_of_ble_eq_true rfl, Nat.le_of_ble_eq_true rfl⟩ ⟨by show cs + 20 ≤ 670155; omega, by show sl + 9000 ≤ 7091004; omega⟩ dL_law_1082 (fun r10 h10 w10 => ?_)
        obtain ⟨e10, rfl⟩ := w10; subst e10
        refine v_iload C 0 rfl dL_law_1085 ?_
        refine v_icmp_eq (tgt := 2313) C dL_law_1087 (by decide) (fun c11 => ?_) (fun c11 => absurd c11 (by decide))
        refine v_lvp [8, 9, 10, 11, 12, 13, 14, 15, 16, 17, 18, 19, 20, 21, 22] rfl ?_
        exact v_widen (by omega) (by omega) (next _ _ _ _ _ _ _ _ _ _ _ _ _ ⟨hi, hw, lx, li.2.2.2.mono (by omega)⟩)
      · have c8 := (nn_gt_f (a := (lv up)) (b := (oL s tm)) (by omega) (by omega)).mp c8
        refine v_iload C 0 rfl dL_law_1051 ?_
        refine v_aload_n C 19 rfl dL_law_1053 rfl ?_
        refine v_iconst (v := 0) C dL_law_1054 (by decide) ?_
        refine v_callS (rest := []) C (c_L_names l hl G (ad 0) up N 0 F A D T lv s h hw he lx.1.1 hupN) S_L_191 rfl rfl (Nat.le_of_ble_eq_true rfl) ⟨Nat.le_of_ble_eq_true rfl, Nat.le_of_ble_eq_true rfl⟩ ⟨by show cs + 1 ≤ 670155; omega, by show sl + 32 ≤ 7091004; omega⟩ dL_law_1055 (fun r12 h12 w12 => ?_)
        obtain ⟨er12, kp12⟩ := w12; subst er12
        have lw12 := lx.mono kp12
        have xi12 := hi.keep (fun b e hb _ => kp12 b e hb)
        have hgk := he.gk hw hupN
        refine v_iload C 3 rfl dL_law_1058 ?_
        refine v_icmp_lt (tgt := 1067) C dL_law_1060 (by decide) (fun c13 => ?_) (fun c13 => ?_)
        · have c13 := (gI_lt (n := tm) (g := gtk (T up)) (by omega) (by omega)).mp c13
          refine v_iconst (v := 0) C dL_law_1067 (by decide) ?_
          refine v_istore C [(22, .int 0), (21, .int (nI up)), (20, .int (nI q)), (19, .int (nI ts)), (18, .int (nI tm)), (17, .int (nI 12)), (16, .int y0), (15, .int x0), (14, .int (nI t0)), (13, .int (nI (bN s))), (12, .int (nI (rN s))), (11, .int (nI (oN s))), (10, .int (nI (oS s).length)), (9, .int (nI N)), (8, .ref (ad 6)), (7, .ref (ad 5)), (6, .ref (ad 4)), (5, .ref (ad 3)), (4, .ref (ad 2)), (3, .ref (ad 1)), (2, .ref (ad 0)), (1, .ref x), (0, .ref sb)] rfl (by decide) dL_law_1068 ?_
          refine v_iload C 0 rfl dL_law_1070 ?_
          refine v_if_le (tgt := 1092) C dL_law_1072 (by decide) (fun c14 => ?_) (fun c14 => absurd c14 (by decide))
          refine v_iconst (v := 0) C dL_law_1092 (by decide) ?_
          refine v_istore C [(23, .int 0), (22, .int 0), (21, .int (nI up)), (20, .int (nI q)), (19, .int (nI ts)), (18, .int (nI tm)), (17, .int (nI 12)), (16, .int y0), (15, .int x0), (14, .int (nI t0)), (13, .int (nI (bN s))), (12, .int (nI (rN s))), (11, .int (nI (oN s))), (10, .int (nI (oS s).length)), (9, .int (nI N)), (8, .ref (ad 6)), (7, .ref (ad 5)), (6, .ref (ad 4)), (5, .ref (ad 3)), (4, .ref (ad 2)), (3, .ref (ad 1)), (2, .ref (ad 0)), (1, .ref x), (0, .ref sb)] rfl (by decide) dL_law_1093 ?_
          refine v_aload C 19 rfl dL_law_1095 ?_
          refine v_bipush (v := 10) C dL_law_1097 (by decide) ?_
          refine v_iload C 5 rfl dL_law_1099 ?_
          refine v_imul C dL_law_1101 (v_eqi (nI_kml tm 10 (by decide)) ?_)
          refine v_iload C 3 rfl dL_law_1102 ?_
          refine v_iadd C dL_law_1104 (v_eqi (nI_add (10 * tm) q) ?_)
          refine v_iload C 2 rfl dL_law_1105 ?_
          refine v_iast C (lw12.1.2.2.1) (vpin (show 10 * tm + q < 60 by omega) (by decide)) dL_law_1107 (v_nw (fun h17 eh17 => ?_))
          have lw17 := lw12.p2 (i := 10 * tm + q) (y := (nI up)) (by omega) eh17
          have xi17 := lw12.xi xi12 (i := 2) (by decide) eh17
          refine v_iinc C 13 [(10, .int (nI ((oS s).length - 1))), (23, .int 0), (22, .int 0), (21, .int (nI up)), (20, .int (nI q)), (19, .int (nI ts)), (18, .int (nI tm)), (17, .int (nI 12)), (16, .int y0), (15, .int x0), (14, .int (nI t0)), (13, .int (nI (bN s))), (12, .int (nI (rN s))), (11, .int (nI (oN s))), (9, .int (nI N)), (8, .ref (ad 6)), (7, .ref (ad 5)), (6, .ref (ad 4)), (5, .ref (ad 3)), (4, .ref (ad 2)), (3, .ref (ad 1)), (2, .ref (ad 0)), (1, .ref x), (0, .ref sb)] rfl (nI_dec (p := (oS s).length) (by omega)) rfl (by decide) dL_law_1108 ?_
          have hK0 : kAmend s (nI tm) (nI q) = 0 := c_am0 hN6 (by omega) (by omega) (by omega) (by rw [ht1]; show lv up ≤ _; omega) (by rw [ht1]; show gtk (T up) ≤ _; omega)
          have hr2 := rs_amend li.2.2.2 (t := tm) (by omega) hq hupN ht1 (by omega)
          refine v_iconst (v := 0) C dL_law_1111 (by decide) ?_
          refine v_istore C [(24, .int 0), (10, .int (nI ((oS s).length - 1))), (23, .int 0), (22, .int 0), (21, .int (nI up)), (20, .int (nI q)), (19, .int (nI ts)), (18, .int (nI tm)), (17, .int (nI 12)), (16, .int y0), (15, .int x0), (14, .int (nI t0)), (13, .int (nI (bN s))), (12, .int (nI (rN s))), (11, .int (nI (oN s))), (9, .int (nI N)), (8, .ref (ad 6)), (7, .ref (ad 5)), (6, .ref (ad 4)), (5, .ref (ad 3)), (4, .ref (ad 2)), (3, .ref (ad 1)), (2, .ref (ad 0)), (1, .ref x), (0, .ref sb)] rfl (by decide) dL_law_1112 ?_
          have L19 : ∀ (d : Nat) (i : Nat), (i ≤ 10) → (10 < i + d) → V zp l ze room_1 zs zm zargs zbelow zmeth zc G 29 Q h17 (cs + 1) (sl + 32) 1114 [(24, .int (nI i)), (10, .int (nI ((oS s).length - 1))), (23, .int (nI (cnt (fun z => (oD (nAmend s (nI tm) (nI q)) tm z).isSome) i))), (22, .int 0), (21, .int (nI up)), (20, .int (nI q)), (19, .int (nI ts)), (18, .int (nI tm)), (17, .int (nI 12)), (16, .int y0), (15, .int x0), (14, .int (nI t0)), (13, .int (nI (bN s))), (12, .int (nI (rN s))), (11, .int (nI (oN s))), (9, .int (nI N)), (8, .ref (ad 6)), (7, .ref (ad 5)), (6, .ref (ad 4)), (5, .ref (ad 3)), (4, .ref (ad 2)), (3, .ref (ad 1)), (2, .ref (ad 0)), (1, .ref x), (0, .ref sb)] [] := by
            intro d
            induction d with
            | zero =>
              intro i hi10 hd
              exact absurd hd (by omega)
            | succ d ih19 =>
              intro i hi10 hd
              refine v_iload C 0 rfl dL_law_1114 ?_
              refine v_bipush (v := 10) C dL_law_1116 (by decide) ?_
              refine v_icmp_ge (tgt := 1151) C dL_law_1118 (by decide) (fun c20 => ?_) (fun c20 => ?_)
              · have c20 := (nk_ge (a := i) 10 (by decide) (by omega) (by decide)).mp c20
                refine v_aload_n C 23 rfl dL_law_1151 rfl ?_
                refine v_iload C 7 rfl dL_law_1152 ?_
                refine v_iload C 5 rfl dL_law_1154 ?_
                refine v_callVX (rest := []) C (c_X4_amend l hl G x g s (nI tm) (nI q) h17 xi17 hw) K_L_108 xi17.1.1.1 rfl rfl (Nat.le_of_ble_eq_true rfl) ⟨Nat.le_of_ble_eq_true rfl, Nat.le_of_ble_eq_true rfl⟩ ⟨by show cs + 1 + 20 ≤ 670155; omega, by show sl + 32 + 9000 ≤ 7091004; omega⟩ dL_law_1156 (fun r21 h21 w21 => ?_) (fun E21 h21 w21 => ?_)
                · obtain ⟨-, er21, g21, xi21, fz21⟩ := w21
                  have lw21 := lw17.fr fz21
                  have fr21 := fz21
                  replace er21 := er21.trans (by rw [cl_nI (show tm < 2 ^ 31 by omega)])
                  subst er21
                  refine v_iload C 2 rfl dL_law_1159 ?_
                  refine v_icmp_eq (tgt := 1166) C dL_law_1161 (by decide) (fun c22 => ?_) (fun c22 => absurd (congrArg nI (show cnt (fun z => (oD (nAmend s (nI tm) (nI q)) tm z).isSome) 20 = cnt (fun z => (oD (nAmend s (nI tm) (nI q)) tm z).isSome) i by rw [show i = 10 by omega]; exact cnt_20 (by decide) (fun z h9 h20 => by rw [hr2.2.2.2.1.1 tm z (by show tm < oN s; omega) (by omega) h20]; rfl))) c22)
                  refine v_goto (tgt := 2268) C dL_law_1166 (by decide) ?_
                  have hlen : (oS (nAmend s (nI tm) (nI q))).length = (oS s).length - 1 := List.length_dropLast
                  refine v_lvp (lv2 := [(20, .int (nI q)), (16, .int y0), (14, .int (nI t0)), (13, .int (nI (bN (nAmend s (nI tm) (nI q))))), (12, .int (nI (rN (nAmend s (nI tm) (nI q))))), (11, .int (nI (oN (nAmend s (nI tm) (nI q))))), (10, .int (nI (oS (nAmend s (nI tm) (nI q))).length)), (9, .int (nI N)), (8, .ref (ad 6)), (7, .ref (ad 5)), (6, .ref (ad 4)), (5, .ref (ad 3)), (4, .ref (ad 2)), (3, .ref (ad 1)), (2, .ref (ad 0)), (1, .ref x), (0, .ref sb)]) [5, 9, 11, 12, 13, 14, 1, 15, 16, 17, 18, 19, 20, 21, 22, 23, 24] (by rw [hlen]; rfl) ?_
                  exact v_widen (by omega) (by omega) (chk _ _ _ _ _ _ _ _ _ _ _ _ _ ⟨xi21, (wf_amend hw hK0), lw21, (hr2.mono (by omega))⟩)
                · obtain ⟨-, w21⟩ := w21
                  rcases w21 with ⟨ek, -⟩ | ⟨ek, -⟩
                  · exact absurd ((hK0).symm.trans ek) (by decide)
                  · exact absurd ((hK0).symm.trans ek) (by decide)
              · have c20 := (nk_ge_f (a := i) 10 (by decide) (by omega) (by decide)).mp c20
                refine v_iload C 2 rfl dL_law_1121 ?_
                refine v_aload C 20 rfl dL_law_1123 ?_
                refine v_bipush (v := 10) C dL_law_1125 (by decide) ?_
                refine v_iload C 7 rfl dL_law_1127 ?_
                refine v_imul C dL_law_1129 (v_eqi (nI_kml tm 10 (by decide)) ?_)
                refine v_iload C 0 rfl dL_law_1130 ?_
                refine v_iadd C dL_law_1132 (v_eqi (nI_add (10 * tm) i) ?_)
                refine v_iald C (lw17.1.2.2.1) (vpin (show 10 * tm + i < 60 by omega) (by decide)) dL_law_1133 (v_eqi (y := (up2 D (10 * tm + q) (nI up)) (10 * tm + i)) (congrArg (up2 D (10 * tm + q) (nI up)) (nI_clamp (show 10 * tm + i < 2 ^ 31 by omega))) ?_)
                refine v_if_ge (tgt := 1141) C dL_law_1134 (by decide) (fun c25 => ?_) (fun c25 => ?_)
                · refine v_iconst (v := 1) C dL_law_1141 (by decide) ?_
                  refine v_iadd C dL_law_1142 (v_eqi (y := (nI (cnt (fun z => (oD (nAmend s (nI tm) (nI q)) tm z).isSome) (i + 1)))) ((nI_adk _ 1 (by decide)).trans (congrArg nI (cnt_t (p := fun z => (oD (nAmend s (nI tm) (nI q)) tm z).isSome) ((oD_sgn hr2.1 (show tm < oN s by omega) (show i < 10 by omega)).mp c25)).symm)) ?_)
                  refine v_istore C [(23, .int (nI (cnt (fun z => (oD (nAmend s (nI tm) (nI q)) tm z).isSome) (i + 1)))), (24, .int (nI i)), (10, .int (nI ((oS s).length - 1))), (22, .int 0), (21, .int (nI up)), (20, .int (nI q)), (19, .int (nI ts)), (18, .int (nI tm)), (17, .int (nI 12)), (16, .int y0), (15, .int x0), (14, .int (nI t0)), (13, .int (nI (bN s))), (12, .int (nI (rN s))), (11, .int (nI (oN s))), (9, .int (nI N)), (8, .ref (ad 6)), (7, .ref (ad 5)), (6, .ref (ad 4)), (5, .ref (ad 3)), (4, .ref (ad 2)), (3, .ref (ad 1)), (2, .ref (ad 0)), (1, .ref x), (0, .ref sb)] rfl (by decide) dL_law_1143 ?_
                  refine v_iinc C 1 [(24, .int (nI (i + 1))), (23, .int (nI (cnt (fun z => (oD (nAmend s (nI tm) (nI q)) tm z).isSome) (i + 1)))), (10, .int (nI ((oS s).length - 1))), (22, .int 0), (21, .int (nI up)), (20, .int (nI q)), (19, .int (nI ts)), (18, .int (nI tm)), (17, .int (nI 12)), (16, .int y0), (15, .int x0), (14, .int (nI t0)), (13, .int (nI (bN s))), (12, .int (nI (rN s))), (11, .int (nI (oN s))), (9, .int (nI N)), (8, .ref (ad 6)), (7, .ref (ad 5)), (6, .ref (ad 4)), (5, .ref (ad 3)), (4, .ref (ad 2)), (3, .ref (ad 1)), (2, .ref (ad 0)), (1, .ref x), (0, .ref sb)] rfl (nI_inc i 1 (by decide)) rfl (by decide) dL_law_1145 ?_
                  refine v_goto (tgt := 1114) C dL_law_1148 (by decide) ?_
                  refine v_lvp [0, 2, 1, 3, 4, 5, 6, 7, 8, 9, 10, 11, 12, 13, 14, 15, 16, 17, 18, 19, 20, 21, 22, 23, 24] rfl ?_
                  exact ih19 (i + 1) (by omega) (by omega)
                · refine v_iconst (v := 0) C dL_law_1137 (by decide) ?_
                  refine v_goto (tgt := 1142) C dL_law_1138 (by decide) ?_
                  refine v_iadd C dL_law_1142 (v_eqi (y := (nI (cnt (fun z => (oD (nAmend s (nI tm) (nI q)) tm z).isSome) (i + 1)))) ((nI_adk _ 0 (by decide)).trans (congrArg nI (cnt_f (p := fun z => (oD (nAmend s (nI tm) (nI q)) tm z).isSome) (fun z => c25 ((oD_sgn hr2.1 (show tm < oN s by omega) (show i < 10 by omega)).mpr z))).symm)) ?_)
                  refine v_istore C [(23, .int (nI (cnt (fun z => (oD (nAmend s (nI tm) (nI q)) tm z).isSome) (i + 1)))), (24, .int (nI i)), (10, .int (nI ((oS s).length - 1))), (22, .int 0), (21, .int (nI up)), (20, .int (nI q)), (19, .int (nI ts)), (18, .int (nI tm)), (17, .int (nI 12)), (16, .int y0), (15, .int x0), (14, .int (nI t0)), (13, .int (nI (bN s))), (12, .int (nI (rN s))), (11, .int (nI (oN s))), (9, .int (nI N)), (8, .ref (ad 6)), (7, .ref (ad 5)), (6, .ref (ad 4)), (5, .ref (ad 3)), (4, .ref (ad 2)), (3, .ref (ad 1)), (2, .ref (ad 0)), (1, .ref x), (0, .ref sb)] rfl (by decide) dL_law_1143 ?_
                  refine v_iinc C 1 [(24, .int (nI (i + 1))), (23, .int (nI (cnt (fun z => (oD (nAmend s (nI tm) (nI q)) tm z).isSome) (i + 1)))), (10, .int (nI ((oS s).length - 1))), (22, .int 0), (21, .int (nI up)), (20, .int (nI q)), (19, .int (nI ts)), (18, .int (nI tm)), (17, .int (nI 12)), (16, .int y0), (15, .int x0), (14, .int (nI t0)), (13, .int (nI (bN s))), (12, .int (nI (rN s))), (11, .int (nI (oN s))), (9, .int (nI N)), (8, .ref (ad 6)), (7, .ref (ad 5)), (6, .ref (ad 4)), (5, .ref (ad 3)), (4, .ref (ad 2)), (3, .ref (ad 1)), (2, .ref (ad 0)), (1, .ref x), (0, .ref sb)] rfl (nI_inc i 1 (by decide)) rfl (by decide) dL_law_1145 ?_
                  refine v_goto (tgt := 1114) C dL_law_1148 (by decide) ?_
                  refine v_lvp [0, 2, 1, 3, 4, 5, 6, 7, 8, 9, 10, 11, 12, 13, 14, 15, 16, 17, 18, 19, 20, 21, 22, 23, 24] rfl ?_
                  exact ih19 (i + 1) (by omega) (by omega)
          refine v_lvp [0, 1, 2, 3, 4, 5, 6, 7, 8, 9, 10, 11, 12, 13, 14, 15, 16, 17, 18, 19, 20, 21, 22, 23, 24] rfl ?_
          exact L19 11 0 (Nat.zero_le _) (by omega)
        · have c13 := (not_congr (gI_lt (n := tm) (g := gtk (T up)) (by omega) (by omega))).mp c13
          refine v_iconst (v := 3) C dL_law_1063 (by decide) ?_
          refine v_goto (tgt := 1068) C dL_law_1064 (by decide) ?_
          refine v_istore C [(22, .int 3), (21, .int (nI up)), (20, .int (nI q)), (19, .int (nI ts)), (18, .int (nI tm)), (17, .int (nI 12)), (16, .int y0), (15, .int x0), (14, .int (nI t0)), (13, .int (nI (bN s))), (12, .int (nI (rN s))), (11, .int (nI (oN s))), (10, .int (nI (oS s).length)), (9, .int (nI N)), (8, .ref (ad 6)), (7, .ref (ad 5)), (6, .ref (ad 4)), (5, .ref (ad 3)), (4, .ref (ad 2)), (3, .ref (ad 1)), (2, .ref (ad 0)), (1, .ref x), (0, .ref sb)] rfl (by decide) dL_law_1068 ?_
          refine v_iload C 0 rfl dL_law_1070 ?_
          refine v_if_le (tgt := 1092) C dL_law_1072 (by decide) (fun c30 => absurd c30 (by decide)) (fun c30 => ?_)
          refine v_aload_n C 21 rfl dL_law_1075 rfl ?_
          refine v_iconst (v := 5) C dL_law_1076 (by decide) ?_
          refine v_iload C 4 rfl dL_law_1077 ?_
          refine v_iload C 2 rfl dL_law_1079 ?_
          refine v_iconst (v := 0) C dL_law_1081 (by decide) ?_
          refine v_callL (rest := []) C hNc (c_L_refused_amend_3 l hl G x g s (nI tm) (nI q) 0 h12 xi12 hw (c_am2 hN6 (by omega) (by omega) (Or.inr (Or.inr (by rw [ht1]; show tm < gtk (T up); omega))))) CL_L_151 rfl rfl (Nat.le_of_ble_eq_true rfl) ⟨Nat.le_of_ble_eq_true rfl, Nat.le_of_ble_eq_true rfl⟩ ⟨by show cs + 1 + 20 ≤ 670155; omega, by show sl + 32 + 9000 ≤ 7091004; omega⟩ dL_law_1082 (fun r31 h31 w31 => ?_)
          obtain ⟨e31, rfl⟩ := w31; subst e31
          refine v_iload C 0 rfl dL_law_1085 ?_
          refine v_icmp_eq (tgt := 2313) C dL_law_1087 (by decide) (fun c32 => ?_) (fun c32 => absurd c32 (by decide))
          refine v_lvp [8, 9, 10, 11, 12, 13, 14, 15, 16, 17, 18, 19, 20, 21, 22] rfl ?_
          exact v_widen (by omega) (by omega) (next _ _ _ _ _ _ _ _ _ _ _ _ _ ⟨xi12, hw, lw12, li.2.2.2.mono (by omega)⟩)
  · have c1 := (nk_ne_f (a := (oN s)) 0 (by decide) (by omega) (by decide)).mp c1
    refine v_iconst (v := 1) C dL_law_1026 (by decide) ?_
    refine v_goto (tgt := 1068) C dL_law_1027 (by decide) ?_
    refine v_istore C [(22, .int 1), (21, .int (nI up)), (20, .int (nI q)), (19, .int (nI ts)), (18, .int (nI tm)), (17, .int (nI 12)), (16, .int y0), (15, .int x0), (14, .int (nI t0)), (13, .int (nI (bN s))), (12, .int (nI (rN s))), (11, .int (nI (oN s))), (10, .int (nI (oS s).length)), (9, .int (nI N)), (8, .ref (ad 6)), (7, .ref (ad 5)), (6, .ref (ad 4)), (5, .ref (ad 3)), (4, .ref (ad 2)), (3, .ref (ad 1)), (2, .ref (ad 0)), (1, .ref x), (0, .ref sb)] rfl (by decide) dL_law_1068 ?_
    refine v_iload C 0 rfl dL_law_1070 ?_
    refine v_if_le (tgt := 1092) C dL_law_1072 (by decide) (fun c33 => absurd c33 (by decide)) (fun c33 => ?_)
    refine v_aload_n C 21 rfl dL_law_1075 rfl ?_
    refine v_iconst (v := 5) C dL_law_1076 (by decide) ?_
    refine v_iload C 4 rfl dL_law_1077 ?_
    refine v_iload C 2 rfl dL_law_1079 ?_
    refine v_iconst (v := 0) C dL_law_1081 (by decide) ?_
    refine v_callL (rest := []) C hNc (c_L_refused_amend_1 l hl G x g s (nI tm) (nI q) 0 h hi hw (c_am1 (by omega))) CL_L_151 rfl rfl (Nat.le_of_ble_eq_true rfl) ⟨Nat.le_of_ble_eq_true rfl, Nat.le_of_ble_eq_true rfl⟩ ⟨by show cs + 20 ≤ 670155; omega, by show sl + 9000 ≤ 7091004; omega⟩ dL_law_1082 (fun r34 h34 w34 => ?_)
    obtain ⟨e34, rfl⟩ := w34; subst e34
    refine v_iload C 0 rfl dL_law_1085 ?_
    refine v_icmp_eq (tgt := 2313) C dL_law_1087 (by decide) (fun c35 => ?_) (fun c35 => absurd c35 (by decide))
    refine v_lvp [8, 9, 10, 11, 12, 13, 14, 15, 16, 17, 18, 19, 20, 21, 22] rfl ?_
    exact v_widen (by omega) (by omega) (next _ _ _ _ _ _ _ _ _ _ _ _ _ ⟨hi, hw, lx, li.2.2.2.mono (by omega)⟩)
set_option maxHeartbeats 8000000 in
set_option maxRecDepth 100000 in
theorem law_test {zp : Program} {l : Launch} {ze : Env} {zs : State} {zm : MethodId} {zargs : Array Value} {zbelow : List Frame} {zmeth : Method} {zc : Code} {G : zG} (hl : l.stackTraces = false) (C : zOK zp l ze room_1 zs zm zargs zbelow zmeth zc G cL_law 29 RL) (hNc : zNc zs) {Q : State → Prop} {sb t0 : Nat} {h : zH} {g : XGh} {x : Nat} {ad : Nat → Nat} {s : ZS} {F : Nat → Nat} {A D : Nat → Int32} {VV : Nat → Nat} {B U : Nat → Int32} {S : Nat → Nat} {T : Nat → List Tok} {lv : Nat → Nat} {N : Nat} (cs sl : Nat) (hcs : cs + 1300 ≤ 670155) (hsl : sl + 45000 ≤ 7091004) (q tm ts up : Nat) (x0 y0 : Int32)  (li : LI G h g x ad s F A D VV B U S T lv N (700 * t0)) (ht0 : t0 < 60) (hq : q < 9) (htm : tm < oN s ∨ (oN s = 0 ∧ tm = 0)) (hts : ts < rN s ∨ (rN s = 0 ∧ ts = 0)) (hup : 0 < (oS s).length → up = S ((oS s).length - 1))  (chk : ∀ (h2 : zH) (g2 : XGh) (s2 : ZS) (F2 : Nat → Nat) (A2 D2 : Nat → Int32) (VV2 : Nat → Nat) (B2 U2 : Nat → Int32) (S2 : Nat → Nat) (T2 : Nat → List Tok) (lv2 : Nat → Nat) (N2 : Nat), LI G h2 g2 x ad s2 F2 A2 D2 VV2 B2 U2 S2 T2 lv2 N2 (700 * (t0 + 1)) → V zp l ze room_1 zs zm zargs zbelow zmeth zc G 29 Q h2 (cs + 200) (sl + 20000) 2268 [(20, .int (nI q)), (16, .int y0), (14, .int (nI t0)), (13, .int (nI (bN s2))), (12, .int (nI (rN s2))), (11, .int (nI (oN s2))), (10, .int (nI (oS s2).length)), (9, .int (nI N2)), (8, .ref (ad 6)), (7, .ref (ad 5)), (6, .ref (ad 4)), (5, .ref (ad 3)), (4, .ref (ad 2)), (3, .ref (ad 1)), (2, .ref (ad 0)), (1, .ref x), (0, .ref sb)] []) (next : ∀ (h2 : zH) (g2 : XGh) (s2 : ZS) (F2 : Nat → Nat) (A2 D2 : Nat → Int32) (VV2 : Nat → Nat) (B2 U2 : Nat → Int32) (S2 : Nat → Nat) (T2 : Nat → List Tok) (lv2 : Nat → Nat) (N2 : Nat), LI G h2 g2 x ad s2 F2 A2 D2 VV2 B2 U2 S2 T2 lv2 N2 (700 * (t0 + 1)) → V zp l ze room_1 zs zm zargs zbelow zmeth zc G 29 Q h2 (cs + 1300) (sl + 45000) 2313 [(14, .int (nI t0)), (13, .int (nI (bN s2))), (12, .int (nI (rN s2))), (11, .int (nI (oN s2))), (10, .int (nI (oS s2).length)), (9, .int (nI N2)), (8, .ref (ad 6)), (7, .ref (ad 5)), (6, .ref (ad 4)), (5, .ref (ad 3)), (4, .ref (ad 2)), (3, .ref (ad 1)), (2, .ref (ad 0)), (1, .ref x), (0, .ref sb)] []) : V zp l ze room_1 zs zm zargs zbelow zmeth zc G 29 Q h (cs) (sl) 1176 [(21, .int (nI up)), (20, .int (nI q)), (19, .int (nI ts)), (18, .int (nI tm)), (17, .int (nI 13)), (16, .int y0), (15, .int x0), (14, .int (nI t0)), (13, .int (nI (bN s))), (12, .int (nI (rN s))), (11, .int (nI (oN s))), (10, .int (nI (oS s).length)), (9, .int (nI N)), (8, .ref (ad 6)), (7, .ref (ad 5)), (6, .ref (ad 4)), (5, .ref (ad 3)), (4, .ref (ad 2)), (3, .ref (ad 1)), (2, .ref (ad 0)), (1, .ref x), (0, .ref sb)] [] := by
  obtain ⟨hi, hw, lx, he, hs, hV, hd, hT, hU⟩ := id li
  have hM := he.1
  have hN6 := he.2.1
  have hK8 := hw.1
  have hR2 := hT.1
  have hB2 := hU.1
  refine v_iload C 10 rfl dL_law_1176 ?_
  refine v_if_eq (tgt := 2313) C dL_law_1178 (by decide) (fun c1 => ?_) (fun c1 => ?_)
  · have c1 := (nk_eq (a := (oN s)) 0 (by decide) (by omega) (by decide)).mp c1
    refine v_lvp [7, 8, 9, 10, 11, 12, 13, 14, 15, 16, 17, 18, 19, 20, 21] rfl ?_
    exact v_widen (by omega) (by omega) (next _ _ _ _ _ _ _ _ _ _ _ _ _ ⟨hi, hw, lx, li.2.2.2.mono (by omega)⟩)
  · have c1 := (nk_eq_f (a := (oN s)) 0 (by decide) (by omega) (by decide)).mp c1
    refine v_iload C 9 rfl dL_law_1181 ?_
    refine v_iconst (v := 2) C dL_law_1183 (by decide) ?_
    refine v_icmp_ne (tgt := 1190) C dL_law_1184 (by decide) (fun c2 => ?_) (fun c2 => ?_)
    · have c2 := (nk_ne (a := (rN s)) 2 (by decide) (by omega) (by decide)).mp c2
      refine v_iload C 6 rfl dL_law_1190 ?_
      refine v_iconst (v := 5) C dL_law_1192 (by decide) ?_
      refine v_ishr C dL_law_1193 (v_topi (fun i3 e3 => ?_))
      refine v_iload C 10 rfl dL_law_1194 ?_
      refine v_callS (rest := []) C (c_L_low l hl G i3 (oN s) h (by omega) (by omega)) S_L_178 rfl rfl (Nat.le_of_ble_eq_true rfl) ⟨Nat.le_of_ble_eq_true rfl, Nat.le_of_ble_eq_true rfl⟩ ⟨by show cs + 0 ≤ 670155; omega, by show sl + 0 ≤ 7091004; omega⟩ dL_law_1196 (fun i4 h4 q4 => ?_)
      obtain ⟨e4, rfl⟩ := q4
      obtain ⟨u4, hu4, eu4⟩ : ∃ u, u < oN s ∧ lw i3 (oN s) = u := ⟨_, lw_lt (by omega), rfl⟩
      rw [eu4] at e4; subst e4
      refine v_istore C [(22, .int (nI u4)), (21, .int (nI up)), (20, .int (nI q)), (19, .int (nI ts)), (18, .int (nI tm)), (17, .int (nI 13)), (16, .int y0), (15, .int x0), (14, .int (nI t0)), (13, .int (nI (bN s))), (12, .int (nI (rN s))), (11, .int (nI (oN s))), (10, .int (nI (oS s).length)), (9, .int (nI N)), (8, .ref (ad 6)), (7, .ref (ad 5)), (6, .ref (ad 4)), (5, .ref (ad 3)), (4, .ref (ad 2)), (3, .ref (ad 1)), (2, .ref (ad 0)), (1, .ref x), (0, .ref sb)] rfl (by decide) dL_law_1199 ?_
      refine v_aload C 16 rfl dL_law_1201 ?_
      refine v_bipush (v := 32) C dL_law_1203 (by decide) ?_
      refine v_iload C 10 rfl dL_law_1205 ?_
      refine v_imul C dL_law_1207 (v_eqi (nI_kml (rN s) 32 (by decide)) ?_)
      refine v_iload C 4 rfl dL_law_1208 ?_
      refine v_iast C (lx.1.2.2.2.2.1) (vpin (show 32 * (rN s) < 64 by omega) (by decide)) dL_law_1210 (v_nw (fun h6 eh6 => ?_))
      have lw6 := lx.p4 (i := 32 * (rN s)) (y := (nI tm)) (by omega) eh6
      have xi6 := lx.xi hi (i := 4) (by decide) eh6
      refine v_aload C 16 rfl dL_law_1211 ?_
      refine v_bipush (v := 32) C dL_law_1213 (by decide) ?_
      refine v_iload C 10 rfl dL_law_1215 ?_
      refine v_imul C dL_law_1217 (v_eqi (nI_kml (rN s) 32 (by decide)) ?_)
      refine v_iconst (v := 1) C dL_law_1218 (by decide) ?_
      refine v_iadd C dL_law_1219 (v_eqi (nI_adk (32 * (rN s)) 1 (by decide)) ?_)
      refine v_iload C 0 rfl dL_law_1220 ?_
      refine v_iast C (lw6.1.2.2.2.2.1) (vpin (show 32 * (rN s) + 1 < 64 by omega) (by decide)) dL_law_1222 (v_nw (fun h9 eh9 => ?_))
      have lw9 := lw6.p4 (i := 32 * (rN s) + 1) (y := (nI u4)) (by omega) eh9
      have xi9 := lw6.xi xi6 (i := 4) (by decide) eh9
      refine v_aload C 16 rfl dL_law_1223 ?_
      refine v_bipush (v := 32) C dL_law_1225 (by decide) ?_
      refine v_iload C 10 rfl dL_law_1227 ?_
      refine v_imul C dL_law_1229 (v_eqi (nI_kml (rN s) 32 (by decide)) ?_)
      refine v_iconst (v := 2) C dL_law_1230 (by decide) ?_
      refine v_iadd C dL_law_1231 (v_eqi (nI_adk (32 * (rN s)) 2 (by decide)) ?_)
      refine v_iconst (v := (-1)) C dL_law_1232 (by decide) ?_
      refine v_iast C (lw9.1.2.2.2.2.1) (vpin (show 32 * (rN s) + 2 < 64 by omega) (by decide)) dL_law_1233 (v_nw (fun h12 eh12 => ?_))
      have lw12 := lw9.p4 (i := 32 * (rN s) + 2) (y := (-1)) (by omega) eh12
      have xi12 := lw9.xi xi9 (i := 4) (by decide) eh12
      obtain ⟨Bx, hBx⟩ : ∃ Bx, Bx = (up2 (up2 (up2 B (32 * (rN s)) (nI tm)) (32 * (rN s) + 1) (nI u4)) (32 * (rN s) + 2) (-1)) := ⟨_, rfl⟩
      have q0 : Bx (32 * rN s) = (nI tm) := by rw [hBx]; exact ((up2_n (by omega)).trans ((up2_n (by omega)).trans (up2_s)))
      have q1 : Bx (32 * rN s + 1) = (nI u4) := by rw [hBx]; exact ((up2_n (by omega)).trans (up2_s))
      have q2 : Bx (32 * rN s + 2) = (-1) := by rw [hBx]; exact (up2_s)
      have qq : ∀ j, (j < 32 * rN s ∨ 32 * rN s + 13 ≤ j ∨ j = 32 * rN s + 3) → Bx j = B j := fun j hj => by rw [hBx]; exact (up2_n (by omega)).trans ((up2_n (by omega)).trans ((up2_n (by omega)).trans (rfl)))
      rw [← hBx] at lw12
      refine v_iconst (v := 0) C dL_law_1234 (by decide) ?_
      refine v_istore C [(23, .int 0), (22, .int (nI u4)), (21, .int (nI up)), (20, .int (nI q)), (19, .int (nI ts)), (18, .int (nI tm)), (17, .int (nI 13)), (16, .int y0), (15, .int x0), (14, .int (nI t0)), (13, .int (nI (bN s))), (12, .int (nI (rN s))), (11, .int (nI (oN s))), (10, .int (nI (oS s).length)), (9, .int (nI N)), (8, .ref (ad 6)), (7, .ref (ad 5)), (6, .ref (ad 4)), (5, .ref (ad 3)), (4, .ref (ad 2)), (3, .ref (ad 1)), (2, .ref (ad 0)), (1, .ref x), (0, .ref sb)] rfl (by decide) dL_law_1235 ?_
      have L13 : ∀ (d : Nat) (i : Nat) (B3 : Nat → Int32) (h2 : zH), (i ≤ 9) → (XI G h2 g x s) → (LW G h2 g ad F A D VV B3 U S) → (∀ z, z < i → B3 (32 * rN s + 4 + z) = -1) → (∀ j, ¬ (32 * rN s + 4 ≤ j ∧ j < 32 * rN s + 13) → B3 j = Bx j) → (9 < i + d) → V zp l ze room_1 zs zm zargs zbelow zmeth zc G 29 Q h2 (cs + 0) (sl + 0) 1237 [(23, .int (nI i)), (22, .int (nI u4)), (21, .int (nI up)), (20, .int (nI q)), (19, .int (nI ts)), (18, .int (nI tm)), (17, .int (nI 13)), (16, .int y0), (15, .int x0), (14, .int (nI t0)), (13, .int (nI (bN s))), (12, .int (nI (rN s))), (11, .int (nI (oN s))), (10, .int (nI (oS s).length)), (9, .int (nI N)), (8, .ref (ad 6)), (7, .ref (ad 5)), (6, .ref (ad 4)), (5, .ref (ad 3)), (4, .ref (ad 2)), (3, .ref (ad 1)), (2, .ref (ad 0)), (1, .ref x), (0, .ref sb)] [] := by
        intro d
        induction d with
        | zero =>
          intro i B3 h2 hi9 xi2 lw2 hb4 hbb hd
          exact absurd hd (by omega)
        | succ d ih13 =>
          intro i B3 h2 hi9 xi2 lw2 hb4 hbb hd
          refine v_iload C 0 rfl dL_law_1237 ?_
          refine v_bipush (v := 9) C dL_law_1239 (by decide) ?_
          refine v_icmp_ge (tgt := 1264) C dL_law_1241 (by decide) (fun c14 => ?_) (fun c14 => ?_)
          · have c14 := (nk_ge (a := i) 9 (by decide) (by omega) (by decide)).mp c14
            refine v_iinc C 11 [(12, .int (nI ((rN s) + 1))), (23, .int (nI i)), (22, .int (nI u4)), (21, .int (nI up)), (20, .int (nI q)), (19, .int (nI ts)), (18, .int (nI tm)), (17, .int (nI 13)), (16, .int y0), (15, .int x0), (14, .int (nI t0)), (13, .int (nI (bN s))), (11, .int (nI (oN s))), (10, .int (nI (oS s).length)), (9, .int (nI N)), (8, .ref (ad 6)), (7, .ref (ad 5)), (6, .ref (ad 4)), (5, .ref (ad 3)), (4, .ref (ad 2)), (3, .ref (ad 1)), (2, .ref (ad 0)), (1, .ref x), (0, .ref sb)] rfl (nI_inc (rN s) 1 (by decide)) rfl (by decide) dL_law_1264 ?_
            refine v_aload_n C 22 rfl dL_law_1267 rfl ?_
            refine v_iload C 6 rfl dL_law_1268 ?_
            refine v_iload C 2 rfl dL_law_1270 ?_
            refine v_callVX (rest := []) C (c_X4_test l hl G x g s (nI tm) (nI u4) h2 xi2 hw) K_L_195 xi2.1.1.1 rfl rfl (Nat.le_of_ble_eq_true rfl) ⟨Nat.le_of_ble_eq_true rfl, Nat.le_of_ble_eq_true rfl⟩ ⟨by show cs + 0 + 10 ≤ 670155; omega, by show sl + 0 + 8000 ≤ 7091004; omega⟩ dL_law_1272 (fun r16 h16 w16 => ?_) (fun E16 h16 w16 => ?_)
            · obtain ⟨-, er16, g16, xi16, fz16⟩ := w16
              have lw16 := lw2.fr fz16
              have fr16 := fz16
              replace er16 := er16.trans (rfl)
              subst er16
              refine v_iload C 0 rfl dL_law_1275 ?_
              refine v_iconst (v := 1) C dL_law_1277 (by decide) ?_
              refine v_isub C dL_law_1278 (v_eqi (y := (nI (rN s))) ((nI_sbk (a := rN s + 1) 1 (by decide) (by omega))) ?_)
              refine v_icmp_eq (tgt := 1284) C dL_law_1279 (by decide) (fun c18 => ?_) (fun c18 => absurd rfl c18)
              refine v_goto (tgt := 2268) C dL_law_1284 (by decide) ?_
              refine v_lvp (lv2 := [(20, .int (nI q)), (16, .int y0), (14, .int (nI t0)), (13, .int (nI (bN (nTest s (nI tm) (nI u4))))), (12, .int (nI (rN (nTest s (nI tm) (nI u4))))), (11, .int (nI (oN (nTest s (nI tm) (nI u4))))), (10, .int (nI (oS (nTest s (nI tm) (nI u4))).length)), (9, .int (nI N)), (8, .ref (ad 6)), (7, .ref (ad 5)), (6, .ref (ad 4)), (5, .ref (ad 3)), (4, .ref (ad 2)), (3, .ref (ad 1)), (2, .ref (ad 0)), (1, .ref x), (0, .ref sb)]) [4, 8, 10, 11, 0, 12, 13, 14, 15, 16, 17, 18, 19, 20, 21, 22, 23] rfl ?_
              exact v_widen (by omega) (by omega) (chk _ _ _ _ _ _ _ _ _ _ _ _ _ ⟨xi16, (wf_test hw (c_tst hN6 (show tm < oN s by omega) (show u4 < oN s by omega) (by omega))), lw16, ((rs_test li.2.2.2 hw (by omega) (show tm < oN s by omega) (show u4 < oN s by omega) (B3 := B3) ((hbb _ (by omega)).trans q0) ((hbb _ (by omega)).trans q1) ((hbb _ (by omega)).trans q2) (fun z hz => hb4 z (by omega)) (fun j hj => (hbb j (by omega)).trans (qq j hj))).mono (by omega))⟩)
            · obtain ⟨-, w16⟩ := w16
              rcases w16 with ⟨ek, -⟩ | ⟨ek, -⟩
              · exact absurd ((c_tst hN6 (show tm < oN s by omega) (show u4 < oN s by omega) (by omega)).symm.trans ek) (by decide)
              · exact absurd ((c_tst hN6 (show tm < oN s by omega) (show u4 < oN s by omega) (by omega)).symm.trans ek) (by decide)
          · have c14 := (nk_ge_f (a := i) 9 (by decide) (by omega) (by decide)).mp c14
            refine v_aload C 17 rfl dL_law_1244 ?_
            refine v_bipush (v := 32) C dL_law_1246 (by decide) ?_
            refine v_iload C 11 rfl dL_law_1248 ?_
            refine v_imul C dL_law_1250 (v_eqi (nI_kml (rN s) 32 (by decide)) ?_)
            refine v_iconst (v := 4) C dL_law_1251 (by decide) ?_
            refine v_iadd C dL_law_1252 (v_eqi (nI_adk (32 * (rN s)) 4 (by decide)) ?_)
            refine v_iload C 0 rfl dL_law_1253 ?_
            refine v_iadd C dL_law_1255 (v_eqi (nI_add ((32 * (rN s)) + 4) i) ?_)
            refine v_iconst (v := (-1)) C dL_law_1256 (by decide) ?_
            refine v_iast C (lw2.1.2.2.2.2.1) (vpin (show 32 * (rN s) + 4 + i < 64 by omega) (by decide)) dL_law_1257 (v_nw (fun h22 eh22 => ?_))
            have lw22 := lw2.p4 (i := 32 * (rN s) + 4 + i) (y := (-1)) (by omega) eh22
            have xi22 := lw2.xi xi2 (i := 4) (by decide) eh22
            refine v_iinc C 0 [(23, .int (nI (i + 1))), (22, .int (nI u4)), (21, .int (nI up)), (20, .int (nI q)), (19, .int (nI ts)), (18, .int (nI tm)), (17, .int (nI 13)), (16, .int y0), (15, .int x0), (14, .int (nI t0)), (13, .int (nI (bN s))), (12, .int (nI (rN s))), (11, .int (nI (oN s))), (10, .int (nI (oS s).length)), (9, .int (nI N)), (8, .ref (ad 6)), (7, .ref (ad 5)), (6, .ref (ad 4)), (5, .ref (ad 3)), (4, .ref (ad 2)), (3, .ref (ad 1)), (2, .ref (ad 0)), (1, .ref x), (0, .ref sb)] rfl (nI_inc i 1 (by decide)) rfl (by decide) dL_law_1258 ?_
            refine v_goto (tgt := 1237) C dL_law_1261 (by decide) ?_
            refine v_lvp [0, 1, 2, 3, 4, 5, 6, 7, 8, 9, 10, 11, 12, 13, 14, 15, 16, 17, 18, 19, 20, 21, 22, 23] rfl ?_
            exact ih13 (i + 1) _ h22 (by omega) xi22 lw22 (fun z hz => by
                  by_cases y : z = i
                  · subst y; exact up2_s
                  · exact (up2_n (by omega)).trans (hb4 z (by omega))) (fun j hj => (up2_n (by omega)).trans (hbb j hj)) (by omega)
      refine v_lvp [0, 1, 2, 3, 4, 5, 6, 7, 8, 9, 10, 11, 12, 13, 14, 15, 16, 17, 18, 19, 20, 21, 22, 23] rfl ?_
      exact L13 10 0 Bx h12 (Nat.zero_le _) xi12 lw12 (fun z hz => absurd hz (Nat.not_lt_zero _)) (fun j _ => rfl) (by omega)
    · have c2 := (nk_ne_f (a := (rN s)) 2 (by decide) (by omega) (by decide)).mp c2
      refine v_goto (tgt := 2313) C dL_law_1187 (by decide) ?_
      refine v_lvp [7, 8, 9, 10, 11, 12, 13, 14, 15, 16, 17, 18, 19, 20, 21] rfl ?_
      exact v_widen (by omega) (by omega) (next _ _ _ _ _ _ _ _ _ _ _ _ _ ⟨hi, hw, lx, li.2.2.2.mono (by omega)⟩)
set_option maxHeartbeats 8000000 in
set_option maxRecDepth 100000 in
theorem law_limit {zp : Program} {l : Launch} {ze : Env} {zs : State} {zm : MethodId} {zargs : Array Value} {zbelow : List Frame} {zmeth : Method} {zc : Code} {G : zG} (hl : l.stackTraces = false) (C : zOK zp l ze room_1 zs zm zargs zbelow zmeth zc G cL_law 29 RL) (hNc : zNc zs) {Q : State → Prop} {sb t0 : Nat} {h : zH} {g : XGh} {x : Nat} {ad : Nat → Nat} {s : ZS} {F : Nat → Nat} {A D : Nat → Int32} {VV : Nat → Nat} {B U : Nat → Int32} {S : Nat → Nat} {T : Nat → List Tok} {lv : Nat → Nat} {N : Nat} (cs sl : Nat) (hcs : cs + 1300 ≤ 670155) (hsl : sl + 45000 ≤ 7091004) (q tm ts up : Nat) (x0 y0 : Int32)  (li : LI G h g x ad s F A D VV B U S T lv N (700 * t0)) (ht0 : t0 < 60) (hq : q < 9) (htm : tm < oN s ∨ (oN s = 0 ∧ tm = 0)) (hts : ts < rN s ∨ (rN s = 0 ∧ ts = 0)) (hup : 0 < (oS s).length → up = S ((oS s).length - 1))  (chk : ∀ (h2 : zH) (g2 : XGh) (s2 : ZS) (F2 : Nat → Nat) (A2 D2 : Nat → Int32) (VV2 : Nat → Nat) (B2 U2 : Nat → Int32) (S2 : Nat → Nat) (T2 : Nat → List Tok) (lv2 : Nat → Nat) (N2 : Nat), LI G h2 g2 x ad s2 F2 A2 D2 VV2 B2 U2 S2 T2 lv2 N2 (700 * (t0 + 1)) → V zp l ze room_1 zs zm zargs zbelow zmeth zc G 29 Q h2 (cs + 200) (sl + 20000) 2268 [(20, .int (nI q)), (16, .int y0), (14, .int (nI t0)), (13, .int (nI (bN s2))), (12, .int (nI (rN s2))), (11, .int (nI (oN s2))), (10, .int (nI (oS s2).length)), (9, .int (nI N2)), (8, .ref (ad 6)), (7, .ref (ad 5)), (6, .ref (ad 4)), (5, .ref (ad 3)), (4, .ref (ad 2)), (3, .ref (ad 1)), (2, .ref (ad 0)), (1, .ref x), (0, .ref sb)] []) (next : ∀ (h2 : zH) (g2 : XGh) (s2 : ZS) (F2 : Nat → Nat) (A2 D2 : Nat → Int32) (VV2 : Nat → Nat) (B2 U2 : Nat → Int32) (S2 : Nat → Nat) (T2 : Nat → List Tok) (lv2 : Nat → Nat) (N2 : Nat), LI G h2 g2 x ad s2 F2 A2 D2 VV2 B2 U2 S2 T2 lv2 N2 (700 * (t0 + 1)) → V zp l ze room_1 zs zm zargs zbelow zmeth zc G 29 Q h2 (cs + 1300) (sl + 45000) 2313 [(14, .int (nI t0)), (13, .int (nI (bN s2))), (12, .int (nI (rN s2))), (11, .int (nI (oN s2))), (10, .int (nI (oS s2).length)), (9, .int (nI N2)), (8, .ref (ad 6)), (7, .ref (ad 5)), (6, .ref (ad 4)), (5, .ref (ad 3)), (4, .ref (ad 2)), (3, .ref (ad 1)), (2, .ref (ad 0)), (1, .ref x), (0, .ref sb)] []) : V zp l ze room_1 zs zm zargs zbelow zmeth zc G 29 Q h (cs) (sl) 1294 [(21, .int (nI up)), (20, .int (nI q)), (19, .int (nI ts)), (18, .int (nI tm)), (17, .int (nI 14)), (16, .int y0), (15, .int x0), (14, .int (nI t0)), (13, .int (nI (bN s))), (12, .int (nI (rN s))), (11, .int (nI (oN s))), (10, .int (nI (oS s).length)), (9, .int (nI N)), (8, .ref (ad 6)), (7, .ref (ad 5)), (6, .ref (ad 4)), (5, .ref (ad 3)), (4, .ref (ad 2)), (3, .ref (ad 1)), (2, .ref (ad 0)), (1, .ref x), (0, .ref sb)] [] := by
  obtain ⟨hi, hw, lx, he, hs, hV, hd, hT, hU⟩ := id li
  have hM := he.1
  have hN6 := he.2.1
  have hK8 := hw.1
  have hR2 := hT.1
  have hB2 := hU.1
  refine v_iload C 9 rfl dL_law_1294 ?_
  refine v_if_ne (tgt := 1302) C dL_law_1296 (by decide) (fun c1 => ?_) (fun c1 => ?_)
  · have c1 := (nk_ne (a := (rN s)) 0 (by decide) (by omega) (by decide)).mp c1
    refine v_iconst (v := 0) C dL_law_1302 (by decide) ?_
    refine v_istore C [(22, .int 0), (21, .int (nI up)), (20, .int (nI q)), (19, .int (nI ts)), (18, .int (nI tm)), (17, .int (nI 14)), (16, .int y0), (15, .int x0), (14, .int (nI t0)), (13, .int (nI (bN s))), (12, .int (nI (rN s))), (11, .int (nI (oN s))), (10, .int (nI (oS s).length)), (9, .int (nI N)), (8, .ref (ad 6)), (7, .ref (ad 5)), (6, .ref (ad 4)), (5, .ref (ad 3)), (4, .ref (ad 2)), (3, .ref (ad 1)), (2, .ref (ad 0)), (1, .ref x), (0, .ref sb)] rfl (by decide) dL_law_1303 ?_
    refine v_aload C 16 rfl dL_law_1305 ?_
    refine v_bipush (v := 32) C dL_law_1307 (by decide) ?_
    refine v_iload C 3 rfl dL_law_1309 ?_
    refine v_imul C dL_law_1311 (v_eqi (nI_kml ts 32 (by decide)) ?_)
    refine v_iconst (v := 4) C dL_law_1312 (by decide) ?_
    refine v_iadd C dL_law_1313 (v_eqi (nI_adk (32 * ts) 4 (by decide)) ?_)
    refine v_iload C 2 rfl dL_law_1314 ?_
    refine v_iadd C dL_law_1316 (v_eqi (nI_add ((32 * ts) + 4) q) ?_)
    refine v_iload C 7 rfl dL_law_1317 ?_
    refine v_iconst (v := 5) C dL_law_1319 (by decide) ?_
    refine v_ishr C dL_law_1320 (v_topi (fun i5 e5 => ?_))
    refine v_iload C 7 rfl dL_law_1321 ?_
    refine v_bipush (v := 26) C dL_law_1323 (by decide) ?_
    refine v_ishr C dL_law_1325 (v_topi (fun i6 e6 => ?_))
    refine v_iconst (v := 2) C dL_law_1326 (by decide) ?_
    refine v_callS (rest := [.int i5, .int (nI (((32 * ts) + 4) + q)), .ref (ad 4)]) C (c_L_low l hl G i6 2 h (by decide) (by omega)) S_L_178 rfl rfl (Nat.le_of_ble_eq_true rfl) ⟨Nat.le_of_ble_eq_true rfl, Nat.le_of_ble_eq_true rfl⟩ ⟨by show cs + 0 ≤ 670155; omega, by show sl + 0 ≤ 7091004; omega⟩ dL_law_1327 (fun i7 h7 q7 => ?_)
    obtain ⟨e7, rfl⟩ := q7
    obtain ⟨u7, hu7, eu7⟩ : ∃ u, u < 2 ∧ lw i6 2 = u := ⟨_, lw_lt (by decide), rfl⟩
    rw [eu7] at e7; subst e7
    refine v_if_ne (tgt := 1339) C dL_law_1330 (by decide) (fun c8 => ?_) (fun c8 => ?_)
    · have c8 := (nk_ne (a := u7) 0 (by decide) (by omega) (by decide)).mp c8
      refine v_sipush (v := 300) C dL_law_1339 (by decide) ?_
      refine v_callS (rest := [.int (nI (((32 * ts) + 4) + q)), .ref (ad 4)]) C (c_L_low l hl G i5 300 h (by decide) (by omega)) S_L_178 rfl rfl (Nat.le_of_ble_eq_true rfl) ⟨Nat.le_of_ble_eq_true rfl, Nat.le_of_ble_eq_true rfl⟩ ⟨by show cs + 0 + 0 ≤ 670155; omega, by show sl + 0 + 0 ≤ 7091004; omega⟩ dL_law_1342 (fun i9 h9 q9 => ?_)
      obtain ⟨e9, rfl⟩ := q9
      obtain ⟨u9, hu9, eu9⟩ : ∃ u, u < 300 ∧ lw i5 300 = u := ⟨_, lw_lt (by decide), rfl⟩
      rw [eu9] at e9; subst e9
      refine v_iast C (lx.1.2.2.2.2.1) (vpin (show 32 * ts + 4 + q < 64 by omega) (by decide)) dL_law_1345 (v_nw (fun h10 eh10 => ?_))
      have lw10 := lx.p4 (i := 32 * ts + 4 + q) (y := (nI u9)) (by omega) eh10
      have xi10 := lx.xi hi (i := 4) (by decide) eh10
      have hK0 : kLimit s (nI ts) (nI q) (nI u9) = 0 := c_lim hR2 (by omega) (by omega) (wth_n (n := 10000) (by omega) (by decide) (by decide))
      have hr2 := rs_limit li.2.2.2 (r := ts) (v := nI u9) (by omega) hq
      have hw2 := wf_limit hw hK0
      have eB : ∀ z, z < 9 → (up2 B (32 * ts + 4 + q) (nI u9)) (32 * ts + 4 + z) = rL (nLimit s (nI ts) (nI q) (nI u9)) ts z := ((hr2.2.2.2.2.1.2 ts (by omega)).1 (by show ts < rN s; omega)).2.2.2
      have hwL : ∀ z, z < 9 → wth (rL (nLimit s (nI ts) (nI q) (nI u9)) ts z) (-1) 10000 := fun z hz => ((hw2.2.2.2.2.1.2.1 ts (by show ts < rN s; omega)).2.2.2 z (by omega)).1
      refine v_iconst (v := 0) C dL_law_1346 (by decide) ?_
      refine v_istore C [(23, .int 0), (22, .int 0), (21, .int (nI up)), (20, .int (nI q)), (19, .int (nI ts)), (18, .int (nI tm)), (17, .int (nI 14)), (16, .int y0), (15, .int x0), (14, .int (nI t0)), (13, .int (nI (bN s))), (12, .int (nI (rN s))), (11, .int (nI (oN s))), (10, .int (nI (oS s).length)), (9, .int (nI N)), (8, .ref (ad 6)), (7, .ref (ad 5)), (6, .ref (ad 4)), (5, .ref (ad 3)), (4, .ref (ad 2)), (3, .ref (ad 1)), (2, .ref (ad 0)), (1, .ref x), (0, .ref sb)] rfl (by decide) dL_law_1347 ?_
      have L11 : ∀ (d : Nat) (i : Nat), (i ≤ 9) → (9 < i + d) → V zp l ze room_1 zs zm zargs zbelow zmeth zc G 29 Q h10 (cs + 0 + 0) (sl + 0 + 0) 1349 [(23, .int (nI i)), (22, .int (nI (cnt (fun z => decide (¬ rL (nLimit s (nI ts) (nI q) (nI u9)) ts z = -1)) i))), (21, .int (nI up)), (20, .int (nI q)), (19, .int (nI ts)), (18, .int (nI tm)), (17, .int (nI 14)), (16, .int y0), (15, .int x0), (14, .int (nI t0)), (13, .int (nI (bN s))), (12, .int (nI (rN s))), (11, .int (nI (oN s))), (10, .int (nI (oS s).length)), (9, .int (nI N)), (8, .ref (ad 6)), (7, .ref (ad 5)), (6, .ref (ad 4)), (5, .ref (ad 3)), (4, .ref (ad 2)), (3, .ref (ad 1)), (2, .ref (ad 0)), (1, .ref x), (0, .ref sb)] [] := by
        intro d
        induction d with
        | zero =>
          intro i hi9 hd
          exact absurd hd (by omega)
        | succ d ih11 =>
          intro i hi9 hd
          refine v_iload C 0 rfl dL_law_1349 ?_
          refine v_bipush (v := 9) C dL_law_1351 (by decide) ?_
          refine v_icmp_ge (tgt := 1388) C dL_law_1353 (by decide) (fun c12 => ?_) (fun c12 => ?_)
          · have c12 := (nk_ge (a := i) 9 (by decide) (by omega) (by decide)).mp c12
            refine v_aload_n C 22 rfl dL_law_1388 rfl ?_
            refine v_iload C 4 rfl dL_law_1389 ?_
            refine v_iload C 3 rfl dL_law_1391 ?_
            refine v_aload C 17 rfl dL_law_1393 ?_
            refine v_bipush (v := 32) C dL_law_1395 (by decide) ?_
            refine v_iload C 4 rfl dL_law_1397 ?_
            refine v_imul C dL_law_1399 (v_eqi (nI_kml ts 32 (by decide)) ?_)
            refine v_iconst (v := 4) C dL_law_1400 (by decide) ?_
            refine v_iadd C dL_law_1401 (v_eqi (nI_adk (32 * ts) 4 (by decide)) ?_)
            refine v_iload C 3 rfl dL_law_1402 ?_
            refine v_iadd C dL_law_1404 (v_eqi (nI_add ((32 * ts) + 4) q) ?_)
            refine v_iald C (lw10.1.2.2.2.2.1) (vpin (show 32 * ts + 4 + q < 64 by omega) (by decide)) dL_law_1405 (v_eqi (y := (nI u9)) ((congrArg (up2 B (32 * ts + 4 + q) (nI u9)) (nI_clamp (show 32 * ts + 4 + q < 2 ^ 31 by omega))).trans (up2_s)) ?_)
            refine v_callVX (rest := []) C (c_X4_limit l hl G x g s (nI ts) (nI q) (nI u9) h10 xi10 hw) K_L_198 xi10.1.1.1 rfl rfl (Nat.le_of_ble_eq_true rfl) ⟨Nat.le_of_ble_eq_true rfl, Nat.le_of_ble_eq_true rfl⟩ ⟨by show cs + 0 + 0 + 10 ≤ 670155; omega, by show sl + 0 + 0 + 200 ≤ 7091004; omega⟩ dL_law_1406 (fun r16 h16 w16 => ?_) (fun E16 h16 w16 => ?_)
            · obtain ⟨-, er16, g16, xi16, fz16⟩ := w16
              have lw16 := lw10.fr fz16
              have fr16 := fz16
              replace er16 := er16.trans (by rw [cl_nI (show ts < 2 ^ 31 by omega)])
              subst er16
              refine v_iload C 1 rfl dL_law_1409 ?_
              refine v_icmp_eq (tgt := 1416) C dL_law_1411 (by decide) (fun c17 => ?_) (fun c17 => absurd (congrArg nI (show cnt (fun z => decide (¬ rL (nLimit s (nI ts) (nI q) (nI u9)) ts z = -1)) 20 = cnt (fun z => decide (¬ rL (nLimit s (nI ts) (nI q) (nI u9)) ts z = -1)) i by rw [show i = 9 by omega]; exact cnt_20 (by decide) (fun z h9 h20 => by exact decide_eq_false (fun y => y ((hr2.2.2.2.2.1.2 ts (by omega)).2.2.2 z h9 h20).1)))) c17)
              refine v_goto (tgt := 2268) C dL_law_1416 (by decide) ?_
              refine v_lvp (lv2 := [(20, .int (nI q)), (16, .int y0), (14, .int (nI t0)), (13, .int (nI (bN (nLimit s (nI ts) (nI q) (nI u9))))), (12, .int (nI (rN (nLimit s (nI ts) (nI q) (nI u9))))), (11, .int (nI (oN (nLimit s (nI ts) (nI q) (nI u9))))), (10, .int (nI (oS (nLimit s (nI ts) (nI q) (nI u9))).length)), (9, .int (nI N)), (8, .ref (ad 6)), (7, .ref (ad 5)), (6, .ref (ad 4)), (5, .ref (ad 3)), (4, .ref (ad 2)), (3, .ref (ad 1)), (2, .ref (ad 0)), (1, .ref x), (0, .ref sb)]) [3, 7, 9, 10, 11, 12, 13, 14, 15, 16, 17, 18, 19, 20, 21, 22, 23] rfl ?_
              exact v_widen (by omega) (by omega) (chk _ _ _ _ _ _ _ _ _ _ _ _ _ ⟨xi16, hw2, lw16, (hr2.mono (by omega))⟩)
            · obtain ⟨-, w16⟩ := w16
              rcases w16 with ⟨ek, -⟩ | ⟨ek, -⟩
              · exact absurd ((hK0).symm.trans ek) (by decide)
              · exact absurd ((hK0).symm.trans ek) (by decide)
          · have c12 := (nk_ge_f (a := i) 9 (by decide) (by omega) (by decide)).mp c12
            refine v_iload C 1 rfl dL_law_1356 ?_
            refine v_aload C 17 rfl dL_law_1358 ?_
            refine v_bipush (v := 32) C dL_law_1360 (by decide) ?_
            refine v_iload C 4 rfl dL_law_1362 ?_
            refine v_imul C dL_law_1364 (v_eqi (nI_kml ts 32 (by decide)) ?_)
            refine v_iconst (v := 4) C dL_law_1365 (by decide) ?_
            refine v_iadd C dL_law_1366 (v_eqi (nI_adk (32 * ts) 4 (by decide)) ?_)
            refine v_iload C 0 rfl dL_law_1367 ?_
            refine v_iadd C dL_law_1369 (v_eqi (nI_add ((32 * ts) + 4) i) ?_)
            refine v_iald C (lw10.1.2.2.2.2.1) (vpin (show 32 * ts + 4 + i < 64 by omega) (by decide)) dL_law_1370 (v_eqi (y := (rL (nLimit s (nI ts) (nI q) (nI u9)) ts i)) ((congrArg (up2 B (32 * ts + 4 + q) (nI u9)) (nI_clamp (show 32 * ts + 4 + i < 2 ^ 31 by omega))).trans (eB i (by omega))) ?_)
            refine v_if_ge (tgt := 1378) C dL_law_1371 (by decide) (fun c21 => ?_) (fun c21 => ?_)
            · refine v_iconst (v := 1) C dL_law_1378 (by decide) ?_
              refine v_iadd C dL_law_1379 (v_eqi (y := (nI (cnt (fun z => decide (¬ rL (nLimit s (nI ts) (nI q) (nI u9)) ts z = -1)) (i + 1)))) ((nI_adk _ 1 (by decide)).trans (congrArg nI (cnt_t (p := fun z => decide (¬ rL (nLimit s (nI ts) (nI q) (nI u9)) ts z = -1)) (decide_eq_true ((rL_sgn (hwL i (by omega))).mp c21))).symm)) ?_)
              refine v_istore C [(22, .int (nI (cnt (fun z => decide (¬ rL (nLimit s (nI ts) (nI q) (nI u9)) ts z = -1)) (i + 1)))), (23, .int (nI i)), (21, .int (nI up)), (20, .int (nI q)), (19, .int (nI ts)), (18, .int (nI tm)), (17, .int (nI 14)), (16, .int y0), (15, .int x0), (14, .int (nI t0)), (13, .int (nI (bN s))), (12, .int (nI (rN s))), (11, .int (nI (oN s))), (10, .int (nI (oS s).length)), (9, .int (nI N)), (8, .ref (ad 6)), (7, .ref (ad 5)), (6, .ref (ad 4)), (5, .ref (ad 3)), (4, .ref (ad 2)), (3, .ref (ad 1)), (2, .ref (ad 0)), (1, .ref x), (0, .ref sb)] rfl (by decide) dL_law_1380 ?_
              refine v_iinc C 1 [(23, .int (nI (i + 1))), (22, .int (nI (cnt (fun z => decide (¬ rL (nLimit s (nI ts) (nI q) (nI u9)) ts z = -1)) (i + 1)))), (21, .int (nI up)), (20, .int (nI q)), (19, .int (nI ts)), (18, .int (nI tm)), (17, .int (nI 14)), (16, .int y0), (15, .int x0), (14, .int (nI t0)), (13, .int (nI (bN s))), (12, .int (nI (rN s))), (11, .int (nI (oN s))), (10, .int (nI (oS s).length)), (9, .int (nI N)), (8, .ref (ad 6)), (7, .ref (ad 5)), (6, .ref (ad 4)), (5, .ref (ad 3)), (4, .ref (ad 2)), (3, .ref (ad 1)), (2, .ref (ad 0)), (1, .ref x), (0, .ref sb)] rfl (nI_inc i 1 (by decide)) rfl (by decide) dL_law_1382 ?_
              refine v_goto (tgt := 1349) C dL_law_1385 (by decide) ?_
              refine v_lvp [0, 1, 2, 3, 4, 5, 6, 7, 8, 9, 10, 11, 12, 13, 14, 15, 16, 17, 18, 19, 20, 21, 22, 23] rfl ?_
              exact ih11 (i + 1) (by omega) (by omega)
            · refine v_iconst (v := 0) C dL_law_1374 (by decide) ?_
              refine v_goto (tgt := 1379) C dL_law_1375 (by decide) ?_
              refine v_iadd C dL_law_1379 (v_eqi (y := (nI (cnt (fun z => decide (¬ rL (nLimit s (nI ts) (nI q) (nI u9)) ts z = -1)) (i + 1)))) ((nI_adk _ 0 (by decide)).trans (congrArg nI (cnt_f (p := fun z => decide (¬ rL (nLimit s (nI ts) (nI q) (nI u9)) ts z = -1)) (fun z => c21 ((rL_sgn (hwL i (by omega))).mpr (of_decide_eq_true z)))).symm)) ?_)
              refine v_istore C [(22, .int (nI (cnt (fun z => decide (¬ rL (nLimit s (nI ts) (nI q) (nI u9)) ts z = -1)) (i + 1)))), (23, .int (nI i)), (21, .int (nI up)), (20, .int (nI q)), (19, .int (nI ts)), (18, .int (nI tm)), (17, .int (nI 14)), (16, .int y0), (15, .int x0), (14, .int (nI t0)), (13, .int (nI (bN s))), (12, .int (nI (rN s))), (11, .int (nI (oN s))), (10, .int (nI (oS s).length)), (9, .int (nI N)), (8, .ref (ad 6)), (7, .ref (ad 5)), (6, .ref (ad 4)), (5, .ref (ad 3)), (4, .ref (ad 2)), (3, .ref (ad 1)), (2, .ref (ad 0)), (1, .ref x), (0, .ref sb)] rfl (by decide) dL_law_1380 ?_
              refine v_iinc C 1 [(23, .int (nI (i + 1))), (22, .int (nI (cnt (fun z => decide (¬ rL (nLimit s (nI ts) (nI q) (nI u9)) ts z = -1)) (i + 1)))), (21, .int (nI up)), (20, .int (nI q)), (19, .int (nI ts)), (18, .int (nI tm)), (17, .int (nI 14)), (16, .int y0), (15, .int x0), (14, .int (nI t0)), (13, .int (nI (bN s))), (12, .int (nI (rN s))), (11, .int (nI (oN s))), (10, .int (nI (oS s).length)), (9, .int (nI N)), (8, .ref (ad 6)), (7, .ref (ad 5)), (6, .ref (ad 4)), (5, .ref (ad 3)), (4, .ref (ad 2)), (3, .ref (ad 1)), (2, .ref (ad 0)), (1, .ref x), (0, .ref sb)] rfl (nI_inc i 1 (by decide)) rfl (by decide) dL_law_1382 ?_
              refine v_goto (tgt := 1349) C dL_law_1385 (by decide) ?_
              refine v_lvp [0, 1, 2, 3, 4, 5, 6, 7, 8, 9, 10, 11, 12, 13, 14, 15, 16, 17, 18, 19, 20, 21, 22, 23] rfl ?_
              exact ih11 (i + 1) (by omega) (by omega)
      refine v_lvp [0, 1, 2, 3, 4, 5, 6, 7, 8, 9, 10, 11, 12, 13, 14, 15, 16, 17, 18, 19, 20, 21, 22, 23] rfl ?_
      exact L11 10 0 (Nat.zero_le _) (by omega)
    · have c8 := (nk_ne_f (a := u7) 0 (by decide) (by omega) (by decide)).mp c8
      refine v_sipush (v := 10001) C dL_law_1333 (by decide) ?_
      refine v_goto (tgt := 1342) C dL_law_1336 (by decide) ?_
      refine v_callS (rest := [.int (nI (((32 * ts) + 4) + q)), .ref (ad 4)]) C (c_L_low l hl G i5 10001 h (by decide) (by omega)) S_L_178 rfl rfl (Nat.le_of_ble_eq_true rfl) ⟨Nat.le_of_ble_eq_true rfl, Nat.le_of_ble_eq_true rfl⟩ ⟨by show cs + 0 + 0 ≤ 670155; omega, by show sl + 0 + 0 ≤ 7091004; omega⟩ dL_law_1342 (fun i26 h26 q26 => ?_)
      obtain ⟨e26, rfl⟩ := q26
      obtain ⟨u26, hu26, eu26⟩ : ∃ u, u < 10001 ∧ lw i5 10001 = u := ⟨_, lw_lt (by decide), rfl⟩
      rw [eu26] at e26; subst e26
      refine v_iast C (lx.1.2.2.2.2.1) (vpin (show 32 * ts + 4 + q < 64 by omega) (by decide)) dL_law_1345 (v_nw (fun h27 eh27 => ?_))
      have lw27 := lx.p4 (i := 32 * ts + 4 + q) (y := (nI u26)) (by omega) eh27
      have xi27 := lx.xi hi (i := 4) (by decide) eh27
      have hK0 : kLimit s (nI ts) (nI q) (nI u26) = 0 := c_lim hR2 (by omega) (by omega) (wth_n (n := 10000) (by omega) (by decide) (by decide))
      have hr2 := rs_limit li.2.2.2 (r := ts) (v := nI u26) (by omega) hq
      have hw2 := wf_limit hw hK0
      have eB : ∀ z, z < 9 → (up2 B (32 * ts + 4 + q) (nI u26)) (32 * ts + 4 + z) = rL (nLimit s (nI ts) (nI q) (nI u26)) ts z := ((hr2.2.2.2.2.1.2 ts (by omega)).1 (by show ts < rN s; omega)).2.2.2
      have hwL : ∀ z, z < 9 → wth (rL (nLimit s (nI ts) (nI q) (nI u26)) ts z) (-1) 10000 := fun z hz => ((hw2.2.2.2.2.1.2.1 ts (by show ts < rN s; omega)).2.2.2 z (by omega)).1
      refine v_iconst (v := 0) C dL_law_1346 (by decide) ?_
      refine v_istore C [(23, .int 0), (22, .int 0), (21, .int (nI up)), (20, .int (nI q)), (19, .int (nI ts)), (18, .int (nI tm)), (17, .int (nI 14)), (16, .int y0), (15, .int x0), (14, .int (nI t0)), (13, .int (nI (bN s))), (12, .int (nI (rN s))), (11, .int (nI (oN s))), (10, .int (nI (oS s).length)), (9, .int (nI N)), (8, .ref (ad 6)), (7, .ref (ad 5)), (6, .ref (ad 4)), (5, .ref (ad 3)), (4, .ref (ad 2)), (3, .ref (ad 1)), (2, .ref (ad 0)), (1, .ref x), (0, .ref sb)] rfl (by decide) dL_law_1347 ?_
      have L28 : ∀ (d : Nat) (i : Nat), (i ≤ 9) → (9 < i + d) → V zp l ze room_1 zs zm zargs zbelow zmeth zc G 29 Q h27 (cs + 0 + 0) (sl + 0 + 0) 1349 [(23, .int (nI i)), (22, .int (nI (cnt (fun z => decide (¬ rL (nLimit s (nI ts) (nI q) (nI u26)) ts z = -1)) i))), (21, .int (nI up)), (20, .int (nI q)), (19, .int (nI ts)), (18, .int (nI tm)), (17, .int (nI 14)), (16, .int y0), (15, .int x0), (14, .int (nI t0)), (13, .int (nI (bN s))), (12, .int (nI (rN s))), (11, .int (nI (oN s))), (10, .int (nI (oS s).length)), (9, .int (nI N)), (8, .ref (ad 6)), (7, .ref (ad 5)), (6, .ref (ad 4)), (5, .ref (ad 3)), (4, .ref (ad 2)), (3, .ref (ad 1)), (2, .ref (ad 0)), (1, .ref x), (0, .ref sb)] [] := by
        intro d
        induction d with
        | zero =>
          intro i hi9 hd
          exact absurd hd (by omega)
        | succ d ih28 =>
          intro i hi9 hd
          refine v_iload C 0 rfl dL_law_1349 ?_
          refine v_bipush (v := 9) C dL_law_1351 (by decide) ?_
          refine v_icmp_ge (tgt := 1388) C dL_law_1353 (by decide) (fun c29 => ?_) (fun c29 => ?_)
          · have c29 := (nk_ge (a := i) 9 (by decide) (by omega) (by decide)).mp c29
            refine v_aload_n C 22 rfl dL_law_1388 rfl ?_
            refine v_iload C 4 rfl dL_law_1389 ?_
            refine v_iload C 3 rfl dL_law_1391 ?_
            refine v_aload C 17 rfl dL_law_1393 ?_
            refine v_bipush (v := 32) C dL_law_1395 (by decide) ?_
            refine v_iload C 4 rfl dL_law_1397 ?_
            refine v_imul C dL_law_1399 (v_eqi (nI_kml ts 32 (by decide)) ?_)
            refine v_iconst (v := 4) C dL_law_1400 (by decide) ?_
            refine v_iadd C dL_law_1401 (v_eqi (nI_adk (32 * ts) 4 (by decide)) ?_)
            refine v_iload C 3 rfl dL_law_1402 ?_
            refine v_iadd C dL_law_1404 (v_eqi (nI_add ((32 * ts) + 4) q) ?_)
            refine v_iald C (lw27.1.2.2.2.2.1) (vpin (show 32 * ts + 4 + q < 64 by omega) (by decide)) dL_law_1405 (v_eqi (y := (nI u26)) ((congrArg (up2 B (32 * ts + 4 + q) (nI u26)) (nI_clamp (show 32 * ts + 4 + q < 2 ^ 31 by omega))).trans (up2_s)) ?_)
            refine v_callVX (rest := []) C (c_X4_limit l hl G x g s (nI ts) (nI q) (nI u26) h27 xi27 hw) K_L_198 xi27.1.1.1 rfl rfl (Nat.le_of_ble_eq_true rfl) ⟨Nat.le_of_ble_eq_true rfl, Nat.le_of_ble_eq_true rfl⟩ ⟨by show cs + 0 + 0 + 10 ≤ 670155; omega, by show sl + 0 + 0 + 200 ≤ 7091004; omega⟩ dL_law_1406 (fun r33 h33 w33 => ?_) (fun E33 h33 w33 => ?_)
            · obtain ⟨-, er33, g33, xi33, fz33⟩ := w33
              have lw33 := lw27.fr fz33
              have fr33 := fz33
              replace er33 := er33.trans (by rw [cl_nI (show ts < 2 ^ 31 by omega)])
              subst er33
              refine v_iload C 1 rfl dL_law_1409 ?_
              refine v_icmp_eq (tgt := 1416) C dL_law_1411 (by decide) (fun c34 => ?_) (fun c34 => absurd (congrArg nI (show cnt (fun z => decide (¬ rL (nLimit s (nI ts) (nI q) (nI u26)) ts z = -1)) 20 = cnt (fun z => decide (¬ rL (nLimit s (nI ts) (nI q) (nI u26)) ts z = -1)) i by rw [show i = 9 by omega]; exact cnt_20 (by decide) (fun z h9 h20 => by exact decide_eq_false (fun y => y ((hr2.2.2.2.2.1.2 ts (by omega)).2.2.2 z h9 h20).1)))) c34)
              refine v_goto (tgt := 2268) C dL_law_1416 (by decide) ?_
              refine v_lvp (lv2 := [(20, .int (nI q)), (16, .int y0), (14, .int (nI t0)), (13, .int (nI (bN (nLimit s (nI ts) (nI q) (nI u26))))), (12, .int (nI (rN (nLimit s (nI ts) (nI q) (nI u26))))), (11, .int (nI (oN (nLimit s (nI ts) (nI q) (nI u26))))), (10, .int (nI (oS (nLimit s (nI ts) (nI q) (nI u26))).length)), (9, .int (nI N)), (8, .ref (ad 6)), (7, .ref (ad 5)), (6, .ref (ad 4)), (5, .ref (ad 3)), (4, .ref (ad 2)), (3, .ref (ad 1)), (2, .ref (ad 0)), (1, .ref x), (0, .ref sb)]) [3, 7, 9, 10, 11, 12, 13, 14, 15, 16, 17, 18, 19, 20, 21, 22, 23] rfl ?_
              exact v_widen (by omega) (by omega) (chk _ _ _ _ _ _ _ _ _ _ _ _ _ ⟨xi33, hw2, lw33, (hr2.mono (by omega))⟩)
            · obtain ⟨-, w33⟩ := w33
              rcases w33 with ⟨ek, -⟩ | ⟨ek, -⟩
              · exact absurd ((hK0).symm.trans ek) (by decide)
              · exact absurd ((hK0).symm.trans ek) (by decide)
          · have c29 := (nk_ge_f (a := i) 9 (by decide) (by omega) (by decide)).mp c29
            refine v_iload C 1 rfl dL_law_1356 ?_
            refine v_aload C 17 rfl dL_law_1358 ?_
            refine v_bipush (v := 32) C dL_law_1360 (by decide) ?_
            refine v_iload C 4 rfl dL_law_1362 ?_
            refine v_imul C dL_law_1364 (v_eqi (nI_kml ts 32 (by decide)) ?_)
            refine v_iconst (v := 4) C dL_law_1365 (by decide) ?_
            refine v_iadd C dL_law_1366 (v_eqi (nI_adk (32 * ts) 4 (by decide)) ?_)
            refine v_iload C 0 rfl dL_law_1367 ?_
            refine v_iadd C dL_law_1369 (v_eqi (nI_add ((32 * ts) + 4) i) ?_)
            refine v_iald C (lw27.1.2.2.2.2.1) (vpin (show 32 * ts + 4 + i < 64 by omega) (by decide)) dL_law_1370 (v_eqi (y := (rL (nLimit s (nI ts) (nI q) (nI u26)) ts i)) ((congrArg (up2 B (32 * ts + 4 + q) (nI u26)) (nI_clamp (show 32 * ts + 4 + i < 2 ^ 31 by omega))).trans (eB i (by omega))) ?_)
            refine v_if_ge (tgt := 1378) C dL_law_1371 (by decide) (fun c38 => ?_) (fun c38 => ?_)
            · refine v_iconst (v := 1) C dL_law_1378 (by decide) ?_
              refine v_iadd C dL_law_1379 (v_eqi (y := (nI (cnt (fun z => decide (¬ rL (nLimit s (nI ts) (nI q) (nI u26)) ts z = -1)) (i + 1)))) ((nI_adk _ 1 (by decide)).trans (congrArg nI (cnt_t (p := fun z => decide (¬ rL (nLimit s (nI ts) (nI q) (nI u26)) ts z = -1)) (decide_eq_true ((rL_sgn (hwL i (by omega))).mp c38))).symm)) ?_)
              refine v_istore C [(22, .int (nI (cnt (fun z => decide (¬ rL (nLimit s (nI ts) (nI q) (nI u26)) ts z = -1)) (i + 1)))), (23, .int (nI i)), (21, .int (nI up)), (20, .int (nI q)), (19, .int (nI ts)), (18, .int (nI tm)), (17, .int (nI 14)), (16, .int y0), (15, .int x0), (14, .int (nI t0)), (13, .int (nI (bN s))), (12, .int (nI (rN s))), (11, .int (nI (oN s))), (10, .int (nI (oS s).length)), (9, .int (nI N)), (8, .ref (ad 6)), (7, .ref (ad 5)), (6, .ref (ad 4)), (5, .ref (ad 3)), (4, .ref (ad 2)), (3, .ref (ad 1)), (2, .ref (ad 0)), (1, .ref x), (0, .ref sb)] rfl (by decide) dL_law_1380 ?_
              refine v_iinc C 1 [(23, .int (nI (i + 1))), (22, .int (nI (cnt (fun z => decide (¬ rL (nLimit s (nI ts) (nI q) (nI u26)) ts z = -1)) (i + 1)))), (21, .int (nI up)), (20, .int (nI q)), (19, .int (nI ts)), (18, .int (nI tm)), (17, .int (nI 14)), (16, .int y0), (15, .int x0), (14, .int (nI t0)), (13, .int (nI (bN s))), (12, .int (nI (rN s))), (11, .int (nI (oN s))), (10, .int (nI (oS s).length)), (9, .int (nI N)), (8, .ref (ad 6)), (7, .ref (ad 5)), (6, .ref (ad 4)), (5, .ref (ad 3)), (4, .ref (ad 2)), (3, .ref (ad 1)), (2, .ref (ad 0)), (1, .ref x), (0, .ref sb)] rfl (nI_inc i 1 (by decide)) rfl (by decide) dL_law_1382 ?_
              refine v_goto (tgt := 1349) C dL_law_1385 (by decide) ?_
              refine v_lvp [0, 1, 2, 3, 4, 5, 6, 7, 8, 9, 10, 11, 12, 13, 14, 15, 16, 17, 18, 19, 20, 21, 22, 23] rfl ?_
              exact ih28 (i + 1) (by omega) (by omega)
            · refine v_iconst (v := 0) C dL_law_1374 (by decide) ?_
              refine v_goto (tgt := 1379) C dL_law_1375 (by decide) ?_
              refine v_iadd C dL_law_1379 (v_eqi (y := (nI (cnt (fun z => decide (¬ rL (nLimit s (nI ts) (nI q) (nI u26)) ts z = -1)) (i + 1)))) ((nI_adk _ 0 (by decide)).trans (congrArg nI (cnt_f (p := fun z => decide (¬ rL (nLimit s (nI ts) (nI q) (nI u26)) ts z = -1)) (fun z => c38 ((rL_sgn (hwL i (by omega))).mpr (of_decide_eq_true z)))).symm)) ?_)
              refine v_istore C [(22, .int (nI (cnt (fun z => decide (¬ rL (nLimit s (nI ts) (nI q) (nI u26)) ts z = -1)) (i + 1)))), (23, .int (nI i)), (21, .int (nI up)), (20, .int (nI q)), (19, .int (nI ts)), (18, .int (nI tm)), (17, .int (nI 14)), (16, .int y0), (15, .int x0), (14, .int (nI t0)), (13, .int (nI (bN s))), (12, .int (nI (rN s))), (11, .int (nI (oN s))), (10, .int (nI (oS s).length)), (9, .int (nI N)), (8, .ref (ad 6)), (7, .ref (ad 5)), (6, .ref (ad 4)), (5, .ref (ad 3)), (4, .ref (ad 2)), (3, .ref (ad 1)), (2, .ref (ad 0)), (1, .ref x), (0, .ref sb)] rfl (by decide) dL_law_1380 ?_
              refine v_iinc C 1 [(23, .int (nI (i + 1))), (22, .int (nI (cnt (fun z => decide (¬ rL (nLimit s (nI ts) (nI q) (nI u26)) ts z = -1)) (i + 1)))), (21, .int (nI up)), (20, .int (nI q)), (19, .int (nI ts)), (18, .int (nI tm)), (17, .int (nI 14)), (16, .int y0), (15, .int x0), (14, .int (nI t0)), (13, .int (nI (bN s))), (12, .int (nI (rN s))), (11, .int (nI (oN s))), (10, .int (nI (oS s).length)), (9, .int (nI N)), (8, .ref (ad 6)), (7, .ref (ad 5)), (6, .ref (ad 4)), (5, .ref (ad 3)), (4, .ref (ad 2)), (3, .ref (ad 1)), (2, .ref (ad 0)), (1, .ref x), (0, .ref sb)] rfl (nI_inc i 1 (by decide)) rfl (by decide) dL_law_1382 ?_
              refine v_goto (tgt := 1349) C dL_law_1385 (by decide) ?_
              refine v_lvp [0, 1, 2, 3, 4, 5, 6, 7, 8, 9, 10, 11, 12, 13, 14, 15, 16, 17, 18, 19, 20, 21, 22, 23] rfl ?_
              exact ih28 (i + 1) (by omega) (by omega)
      refine v_lvp [0, 1, 2, 3, 4, 5, 6, 7, 8, 9, 10, 11, 12, 13, 14, 15, 16, 17, 18, 19, 20, 21, 22, 23] rfl ?_
      exact L28 10 0 (Nat.zero_le _) (by omega)
  · have c1 := (nk_ne_f (a := (rN s)) 0 (by decide) (by omega) (by decide)).mp c1
    refine v_goto (tgt := 2313) C dL_law_1299 (by decide) ?_
    refine v_lvp [7, 8, 9, 10, 11, 12, 13, 14, 15, 16, 17, 18, 19, 20, 21] rfl ?_
    exact v_widen (by omega) (by omega) (next _ _ _ _ _ _ _ _ _ _ _ _ _ ⟨hi, hw, lx, li.2.2.2.mono (by omega)⟩)
set_option maxHeartbeats 8000000 in
set_option maxRecDepth 100000 in
theorem law_wake {zp : Program} {l : Launch} {ze : Env} {zs : State} {zm : MethodId} {zargs : Array Value} {zbelow : List Frame} {zmeth : Method} {zc : Code} {G : zG} (hl : l.stackTraces = false) (C : zOK zp l ze room_1 zs zm zargs zbelow zmeth zc G cL_law 29 RL) (hNc : zNc zs) {Q : State → Prop} {sb t0 : Nat} {h : zH} {g : XGh} {x : Nat} {ad : Nat → Nat} {s : ZS} {F : Nat → Nat} {A D : Nat → Int32} {VV : Nat → Nat} {B U : Nat → Int32} {S : Nat → Nat} {T : Nat → List Tok} {lv : Nat → Nat} {N : Nat} (cs sl : Nat) (hcs : cs + 1300 ≤ 670155) (hsl : sl + 45000 ≤ 7091004) (q tm ts up : Nat) (x0 y0 : Int32)  (li : LI G h g x ad s F A D VV B U S T lv N (700 * t0)) (ht0 : t0 < 60) (hq : q < 9) (htm : tm < oN s ∨ (oN s = 0 ∧ tm = 0)) (hts : ts < rN s ∨ (rN s = 0 ∧ ts = 0)) (hup : 0 < (oS s).length → up = S ((oS s).length - 1))  (chk : ∀ (h2 : zH) (g2 : XGh) (s2 : ZS) (F2 : Nat → Nat) (A2 D2 : Nat → Int32) (VV2 : Nat → Nat) (B2 U2 : Nat → Int32) (S2 : Nat → Nat) (T2 : Nat → List Tok) (lv2 : Nat → Nat) (N2 : Nat), LI G h2 g2 x ad s2 F2 A2 D2 VV2 B2 U2 S2 T2 lv2 N2 (700 * (t0 + 1)) → V zp l ze room_1 zs zm zargs zbelow zmeth zc G 29 Q h2 (cs + 200) (sl + 20000) 2268 [(20, .int (nI q)), (16, .int y0), (14, .int (nI t0)), (13, .int (nI (bN s2))), (12, .int (nI (rN s2))), (11, .int (nI (oN s2))), (10, .int (nI (oS s2).length)), (9, .int (nI N2)), (8, .ref (ad 6)), (7, .ref (ad 5)), (6, .ref (ad 4)), (5, .ref (ad 3)), (4, .ref (ad 2)), (3, .ref (ad 1)), (2, .ref (ad 0)), (1, .ref x), (0, .ref sb)] []) (next : ∀ (h2 : zH) (g2 : XGh) (s2 : ZS) (F2 : Nat → Nat) (A2 D2 : Nat → Int32) (VV2 : Nat → Nat) (B2 U2 : Nat → Int32) (S2 : Nat → Nat) (T2 : Nat → List Tok) (lv2 : Nat → Nat) (N2 : Nat), LI G h2 g2 x ad s2 F2 A2 D2 VV2 B2 U2 S2 T2 lv2 N2 (700 * (t0 + 1)) → V zp l ze room_1 zs zm zargs zbelow zmeth zc G 29 Q h2 (cs + 1300) (sl + 45000) 2313 [(14, .int (nI t0)), (13, .int (nI (bN s2))), (12, .int (nI (rN s2))), (11, .int (nI (oN s2))), (10, .int (nI (oS s2).length)), (9, .int (nI N2)), (8, .ref (ad 6)), (7, .ref (ad 5)), (6, .ref (ad 4)), (5, .ref (ad 3)), (4, .ref (ad 2)), (3, .ref (ad 1)), (2, .ref (ad 0)), (1, .ref x), (0, .ref sb)] []) : V zp l ze room_1 zs zm zargs zbelow zmeth zc G 29 Q h (cs) (sl) 1426 [(21, .int (nI up)), (20, .int (nI q)), (19, .int (nI ts)), (18, .int (nI tm)), (17, .int (nI 15)), (16, .int y0), (15, .int x0), (14, .int (nI t0)), (13, .int (nI (bN s))), (12, .int (nI (rN s))), (11, .int (nI (oN s))), (10, .int (nI (oS s).length)), (9, .int (nI N)), (8, .ref (ad 6)), (7, .ref (ad 5)), (6, .ref (ad 4)), (5, .ref (ad 3)), (4, .ref (ad 2)), (3, .ref (ad 1)), (2, .ref (ad 0)), (1, .ref x), (0, .ref sb)] [] := by
  obtain ⟨hi, hw, lx, he, hs, hV, hd, hT, hU⟩ := id li
  have hM := he.1
  have hN6 := he.2.1
  have hK8 := hw.1
  have hR2 := hT.1
  have hB2 := hU.1
  refine v_iload C 9 rfl dL_law_1426 ?_
  refine v_if_ne (tgt := 1434) C dL_law_1428 (by decide) (fun c1 => ?_) (fun c1 => ?_)
  · have c1 := (nk_ne (a := (rN s)) 0 (by decide) (by omega) (by decide)).mp c1
    obtain ⟨hE0, hE3, hEc, hEz⟩ := hT.2 ts (by omega)
    obtain ⟨e0, e1, e2, eL⟩ := hE0 (by omega)
    obtain ⟨hrT, hrB, hrW, hrQ⟩ := hw.2.2.2.2.1.2.1 ts (by omega)
    refine v_aload C 15 rfl dL_law_1434 ?_
    refine v_bipush (v := 32) C dL_law_1436 (by decide) ?_
    refine v_iload C 2 rfl dL_law_1438 ?_
    refine v_imul C dL_law_1440 (v_eqi (nI_kml ts 32 (by decide)) ?_)
    refine v_iconst (v := 2) C dL_law_1441 (by decide) ?_
    refine v_iadd C dL_law_1442 (v_eqi (nI_adk (32 * ts) 2 (by decide)) ?_)
    refine v_iald C (lx.1.2.2.2.2.1) (vpin (show 32 * ts + 2 < 64 by omega) (by decide)) dL_law_1443 (v_eqi (y := (rW s ts)) ((congrArg B (nI_clamp (show 32 * ts + 2 < 2 ^ 31 by omega))).trans (e2)) ?_)
    refine v_istore C [(22, .int (rW s ts)), (21, .int (nI up)), (20, .int (nI q)), (19, .int (nI ts)), (18, .int (nI tm)), (17, .int (nI 15)), (16, .int y0), (15, .int x0), (14, .int (nI t0)), (13, .int (nI (bN s))), (12, .int (nI (rN s))), (11, .int (nI (oN s))), (10, .int (nI (oS s).length)), (9, .int (nI N)), (8, .ref (ad 6)), (7, .ref (ad 5)), (6, .ref (ad 4)), (5, .ref (ad 3)), (4, .ref (ad 2)), (3, .ref (ad 1)), (2, .ref (ad 0)), (1, .ref x), (0, .ref sb)] rfl (by decide) dL_law_1444 ?_
    refine v_aload C 16 rfl dL_law_1446 ?_
    refine v_bipush (v := 32) C dL_law_1448 (by decide) ?_
    refine v_iload C 3 rfl dL_law_1450 ?_
    refine v_imul C dL_law_1452 (v_eqi (nI_kml ts 32 (by decide)) ?_)
    refine v_iconst (v := 2) C dL_law_1453 (by decide) ?_
    refine v_iadd C dL_law_1454 (v_eqi (nI_adk (32 * ts) 2 (by decide)) ?_)
    refine v_iload C 7 rfl dL_law_1455 ?_
    refine v_iconst (v := 5) C dL_law_1457 (by decide) ?_
    refine v_ishr C dL_law_1458 (v_topi (fun i6 e6 => ?_))
    refine v_bipush (v := 7) C dL_law_1459 (by decide) ?_
    refine v_callS (rest := [.int (nI ((32 * ts) + 2)), .ref (ad 4)]) C (c_L_low l hl G i6 7 h (by decide) (by omega)) S_L_178 rfl rfl (Nat.le_of_ble_eq_true rfl) ⟨Nat.le_of_ble_eq_true rfl, Nat.le_of_ble_eq_true rfl⟩ ⟨by show cs + 0 ≤ 670155; omega, by show sl + 0 ≤ 7091004; omega⟩ dL_law_1461 (fun i7 h7 q7 => ?_)
    obtain ⟨e7, rfl⟩ := q7
    obtain ⟨u7, hu7, eu7⟩ : ∃ u, u < 7 ∧ lw i6 7 = u := ⟨_, lw_lt (by decide), rfl⟩
    rw [eu7] at e7; subst e7
    refine v_iconst (v := 1) C dL_law_1464 (by decide) ?_
    refine v_isub C dL_law_1465 (v_topi (fun i8 e8 => ?_))
    have hwa := wk_a (by omega) e8
    refine v_iast C (lx.1.2.2.2.2.1) (vpin (show 32 * ts + 2 < 64 by omega) (by decide)) dL_law_1466 (v_nw (fun h9 eh9 => ?_))
    have lw9 := lx.p4 (i := 32 * ts + 2) (y := i8) (by omega) eh9
    have xi9 := lx.xi hi (i := 4) (by decide) eh9
    refine v_aload C 16 rfl dL_law_1467 ?_
    refine v_bipush (v := 32) C dL_law_1469 (by decide) ?_
    refine v_iload C 3 rfl dL_law_1471 ?_
    refine v_imul C dL_law_1473 (v_eqi (nI_kml ts 32 (by decide)) ?_)
    refine v_iconst (v := 3) C dL_law_1474 (by decide) ?_
    refine v_iadd C dL_law_1475 (v_eqi (nI_adk (32 * ts) 3 (by decide)) ?_)
    refine v_iload C 7 rfl dL_law_1476 ?_
    refine v_bipush (v := 8) C dL_law_1478 (by decide) ?_
    refine v_ishr C dL_law_1480 (v_topi (fun i12 e12 => ?_))
    refine v_sipush (v := 2001) C dL_law_1481 (by decide) ?_
    refine v_callS (rest := [.int (nI ((32 * ts) + 3)), .ref (ad 4)]) C (c_L_low l hl G i12 2001 h9 (by decide) (by omega)) S_L_178 rfl rfl (Nat.le_of_ble_eq_true rfl) ⟨Nat.le_of_ble_eq_true rfl, Nat.le_of_ble_eq_true rfl⟩ ⟨by show cs + 0 + 0 ≤ 670155; omega, by show sl + 0 + 0 ≤ 7091004; omega⟩ dL_law_1484 (fun i13 h13 q13 => ?_)
    obtain ⟨e13, rfl⟩ := q13
    obtain ⟨u13, hu13, eu13⟩ : ∃ u, u < 2001 ∧ lw i12 2001 = u := ⟨_, lw_lt (by decide), rfl⟩
    rw [eu13] at e13; subst e13
    refine v_sipush (v := 1000) C dL_law_1487 (by decide) ?_
    refine v_isub C dL_law_1490 (v_topi (fun i14 e14 => ?_))
    have hwv : wth i14 (-1000000) 1000000 := wth_sub (b := 1000) (n := 2000) e14 (by omega) (by decide) (by decide)
    refine v_iast C (lw9.1.2.2.2.2.1) (vpin (show 32 * ts + 3 < 64 by omega) (by decide)) dL_law_1491 (v_nw (fun h15 eh15 => ?_))
    have lw15 := lw9.p4 (i := 32 * ts + 3) (y := i14) (by omega) eh15
    have xi15 := lw9.xi xi9 (i := 4) (by decide) eh15
    refine v_aload_n C 21 rfl dL_law_1492 rfl ?_
    refine v_iload C 3 rfl dL_law_1493 ?_
    refine v_aload C 16 rfl dL_law_1495 ?_
    refine v_bipush (v := 32) C dL_law_1497 (by decide) ?_
    refine v_iload C 3 rfl dL_law_1499 ?_
    refine v_imul C dL_law_1501 (v_eqi (nI_kml ts 32 (by decide)) ?_)
    refine v_iconst (v := 2) C dL_law_1502 (by decide) ?_
    refine v_iadd C dL_law_1503 (v_eqi (nI_adk (32 * ts) 2 (by decide)) ?_)
    refine v_iald C (lw15.1.2.2.2.2.1) (vpin (show 32 * ts + 2 < 64 by omega) (by decide)) dL_law_1504 (v_eqi (y := i8) ((congrArg (up2 (up2 B (32 * ts + 2) i8) (32 * ts + 3) i14) (nI_clamp (show 32 * ts + 2 < 2 ^ 31 by omega))).trans ((up2_n (by omega)).trans (up2_s))) ?_)
    refine v_aload C 16 rfl dL_law_1505 ?_
    refine v_bipush (v := 32) C dL_law_1507 (by decide) ?_
    refine v_iload C 3 rfl dL_law_1509 ?_
    refine v_imul C dL_law_1511 (v_eqi (nI_kml ts 32 (by decide)) ?_)
    refine v_iconst (v := 3) C dL_law_1512 (by decide) ?_
    refine v_iadd C dL_law_1513 (v_eqi (nI_adk (32 * ts) 3 (by decide)) ?_)
    refine v_iald C (lw15.1.2.2.2.2.1) (vpin (show 32 * ts + 3 < 64 by omega) (by decide)) dL_law_1514 (v_eqi (y := i14) ((congrArg (up2 (up2 B (32 * ts + 2) i8) (32 * ts + 3) i14) (nI_clamp (show 32 * ts + 3 < 2 ^ 31 by omega))).trans (up2_s)) ?_)
    refine v_callVX (rest := []) C (c_X4_wake l hl G x g s (nI ts) i8 i14 h15 xi15 hw) K_L_200 xi15.1.1.1 rfl rfl (Nat.le_of_ble_eq_true rfl) ⟨Nat.le_of_ble_eq_true rfl, Nat.le_of_ble_eq_true rfl⟩ ⟨by show cs + 0 + 0 + 10 ≤ 670155; omega, by show sl + 0 + 0 + 200 ≤ 7091004; omega⟩ dL_law_1515 (fun r20 h20 w20 => ?_) (fun E20 h20 w20 => ?_)
    · obtain ⟨-, er20, g20, xi20, fz20⟩ := w20
      have lw20 := lw15.fr fz20
      have fr20 := fz20
      replace er20 := er20.trans (by rw [cl_nI (show ts < 2 ^ 31 by omega)])
      subst er20
      refine v_iload C 0 rfl dL_law_1518 ?_
      refine v_icmp_eq (tgt := 1525) C dL_law_1520 (by decide) (fun c21 => ?_) (fun c21 => absurd rfl c21)
      refine v_goto (tgt := 2268) C dL_law_1525 (by decide) ?_
      refine v_lvp (lv2 := [(20, .int (nI q)), (16, .int y0), (14, .int (nI t0)), (13, .int (nI (bN (nWake s (nI ts) i8 i14)))), (12, .int (nI (rN (nWake s (nI ts) i8 i14)))), (11, .int (nI (oN (nWake s (nI ts) i8 i14)))), (10, .int (nI (oS (nWake s (nI ts) i8 i14)).length)), (9, .int (nI N)), (8, .ref (ad 6)), (7, .ref (ad 5)), (6, .ref (ad 4)), (5, .ref (ad 3)), (4, .ref (ad 2)), (3, .ref (ad 1)), (2, .ref (ad 0)), (1, .ref x), (0, .ref sb)]) [2, 6, 8, 9, 10, 11, 12, 13, 14, 15, 16, 17, 18, 19, 20, 21, 22] rfl ?_
      exact v_widen (by omega) (by omega) (chk _ _ _ _ _ _ _ _ _ _ _ _ _ ⟨xi20, (wf_wake hw (c_wak hR2 (by omega) hwa hwv)), lw20, ((rs_wake li.2.2.2 (by omega)).mono (by omega))⟩)
    · obtain ⟨-, w20⟩ := w20
      rcases w20 with ⟨ek, -⟩ | ⟨ek, -⟩
      · exact absurd ((c_wak hR2 (by omega) hwa hwv).symm.trans ek) (by decide)
      · exact absurd ((c_wak hR2 (by omega) hwa hwv).symm.trans ek) (by decide)
  · have c1 := (nk_ne_f (a := (rN s)) 0 (by decide) (by omega) (by decide)).mp c1
    refine v_goto (tgt := 2313) C dL_law_1431 (by decide) ?_
    refine v_lvp [7, 8, 9, 10, 11, 12, 13, 14, 15, 16, 17, 18, 19, 20, 21] rfl ?_
    exact v_widen (by omega) (by omega) (next _ _ _ _ _ _ _ _ _ _ _ _ _ ⟨hi, hw, lx, li.2.2.2.mono (by omega)⟩)
set_option maxHeartbeats 8000000 in
set_option maxRecDepth 100000 in
theorem law_waive {zp : Program} {l : Launch} {ze : Env} {zs : State} {zm : MethodId} {zargs : Array Value} {zbelow : List Frame} {zmeth : Method} {zc : Code} {G : zG} (hl : l.stackTraces = false) (C : zOK zp l ze room_1 zs zm zargs zbelow zmeth zc G cL_law 29 RL) (hNc : zNc zs) {Q : State → Prop} {sb t0 : Nat} {h : zH} {g : XGh} {x : Nat} {ad : Nat → Nat} {s : ZS} {F : Nat → Nat} {A D : Nat → Int32} {VV : Nat → Nat} {B U : Nat → Int32} {S : Nat → Nat} {T : Nat → List Tok} {lv : Nat → Nat} {N : Nat} (cs sl : Nat) (hcs : cs + 1300 ≤ 670155) (hsl : sl + 45000 ≤ 7091004) (q tm ts up : Nat) (x0 y0 : Int32)  (li : LI G h g x ad s F A D VV B U S T lv N (700 * t0)) (ht0 : t0 < 60) (hq : q < 9) (htm : tm < oN s ∨ (oN s = 0 ∧ tm = 0)) (hts : ts < rN s ∨ (rN s = 0 ∧ ts = 0)) (hup : 0 < (oS s).length → up = S ((oS s).length - 1))  (chk : ∀ (h2 : zH) (g2 : XGh) (s2 : ZS) (F2 : Nat → Nat) (A2 D2 : Nat → Int32) (VV2 : Nat → Nat) (B2 U2 : Nat → Int32) (S2 : Nat → Nat) (T2 : Nat → List Tok) (lv2 : Nat → Nat) (N2 : Nat), LI G h2 g2 x ad s2 F2 A2 D2 VV2 B2 U2 S2 T2 lv2 N2 (700 * (t0 + 1)) → V zp l ze room_1 zs zm zargs zbelow zmeth zc G 29 Q h2 (cs + 200) (sl + 20000) 2268 [(20, .int (nI q)), (16, .int y0), (14, .int (nI t0)), (13, .int (nI (bN s2))), (12, .int (nI (rN s2))), (11, .int (nI (oN s2))), (10, .int (nI (oS s2).length)), (9, .int (nI N2)), (8, .ref (ad 6)), (7, .ref (ad 5)), (6, .ref (ad 4)), (5, .ref (ad 3)), (4, .ref (ad 2)), (3, .ref (ad 1)), (2, .ref (ad 0)), (1, .ref x), (0, .ref sb)] []) (next : ∀ (h2 : zH) (g2 : XGh) (s2 : ZS) (F2 : Nat → Nat) (A2 D2 : Nat → Int32) (VV2 : Nat → Nat) (B2 U2 : Nat → Int32) (S2 : Nat → Nat) (T2 : Nat → List Tok) (lv2 : Nat → Nat) (N2 : Nat), LI G h2 g2 x ad s2 F2 A2 D2 VV2 B2 U2 S2 T2 lv2 N2 (700 * (t0 + 1)) → V zp l ze room_1 zs zm zargs zbelow zmeth zc G 29 Q h2 (cs + 1300) (sl + 45000) 2313 [(14, .int (nI t0)), (13, .int (nI (bN s2))), (12, .int (nI (rN s2))), (11, .int (nI (oN s2))), (10, .int (nI (oS s2).length)), (9, .int (nI N2)), (8, .ref (ad 6)), (7, .ref (ad 5)), (6, .ref (ad 4)), (5, .ref (ad 3)), (4, .ref (ad 2)), (3, .ref (ad 1)), (2, .ref (ad 0)), (1, .ref x), (0, .ref sb)] []) : V zp l ze room_1 zs zm zargs zbelow zmeth zc G 29 Q h (cs) (sl) 1814 [(21, .int (nI up)), (20, .int (nI q)), (19, .int (nI ts)), (18, .int (nI tm)), (17, .int (nI 17)), (16, .int y0), (15, .int x0), (14, .int (nI t0)), (13, .int (nI (bN s))), (12, .int (nI (rN s))), (11, .int (nI (oN s))), (10, .int (nI (oS s).length)), (9, .int (nI N)), (8, .ref (ad 6)), (7, .ref (ad 5)), (6, .ref (ad 4)), (5, .ref (ad 3)), (4, .ref (ad 2)), (3, .ref (ad 1)), (2, .ref (ad 0)), (1, .ref x), (0, .ref sb)] [] := by
  obtain ⟨hi, hw, lx, he, hs, hV, hd, hT, hU⟩ := id li
  have hM := he.1
  have hN6 := he.2.1
  have hK8 := hw.1
  have hR2 := hT.1
  have hB2 := hU.1
  refine v_iload C 9 rfl dL_law_1814 ?_
  refine v_if_ne (tgt := 1822) C dL_law_1816 (by decide) (fun c1 => ?_) (fun c1 => ?_)
  · have c1 := (nk_ne (a := (rN s)) 0 (by decide) (by omega) (by decide)).mp c1
    obtain ⟨hE0, hE3, hEc, hEz⟩ := hT.2 ts (by omega)
    obtain ⟨e0, e1, e2, eL⟩ := hE0 (by omega)
    obtain ⟨hrT, hrB, hrW, hrQ⟩ := hw.2.2.2.2.1.2.1 ts (by omega)
    refine v_aload C 15 rfl dL_law_1822 ?_
    refine v_bipush (v := 32) C dL_law_1824 (by decide) ?_
    refine v_iload C 2 rfl dL_law_1826 ?_
    refine v_imul C dL_law_1828 (v_eqi (nI_kml ts 32 (by decide)) ?_)
    refine v_bipush (v := 22) C dL_law_1829 (by decide) ?_
    refine v_iadd C dL_law_1831 (v_eqi (nI_adk (32 * ts) 22 (by decide)) ?_)
    refine v_iload C 1 rfl dL_law_1832 ?_
    refine v_iadd C dL_law_1834 (v_eqi (nI_add ((32 * ts) + 22) q) ?_)
    refine v_iconst (v := 1) C dL_law_1835 (by decide) ?_
    refine v_aload C 15 rfl dL_law_1836 ?_
    refine v_bipush (v := 32) C dL_law_1838 (by decide) ?_
    refine v_iload C 2 rfl dL_law_1840 ?_
    refine v_imul C dL_law_1842 (v_eqi (nI_kml ts 32 (by decide)) ?_)
    refine v_bipush (v := 22) C dL_law_1843 (by decide) ?_
    refine v_iadd C dL_law_1845 (v_eqi (nI_adk (32 * ts) 22 (by decide)) ?_)
    refine v_iload C 1 rfl dL_law_1846 ?_
    refine v_iadd C dL_law_1848 (v_eqi (nI_add ((32 * ts) + 22) q) ?_)
    refine v_iald C (lx.1.2.2.2.2.1) (vpin (show 32 * ts + 22 + q < 64 by omega) (by decide)) dL_law_1849 (v_eqi (y := (b01 (rV s ts q))) ((congrArg B (nI_clamp (show 32 * ts + 22 + q < 2 ^ 31 by omega))).trans ((hEc q hq).2)) ?_)
    refine v_isub C dL_law_1850 (v_eqi (y := (b01 (!(rV s ts q)))) (b01_not (rV s ts q)) ?_)
    refine v_iast C (lx.1.2.2.2.2.1) (vpin (show 32 * ts + 22 + q < 64 by omega) (by decide)) dL_law_1851 (v_nw (fun h9 eh9 => ?_))
    have lw9 := lx.p4 (i := 32 * ts + 22 + q) (y := (b01 (!(rV s ts q)))) (by omega) eh9
    have xi9 := lx.xi hi (i := 4) (by decide) eh9
    refine v_aload_n C 20 rfl dL_law_1852 rfl ?_
    refine v_iload C 2 rfl dL_law_1853 ?_
    refine v_iload C 1 rfl dL_law_1855 ?_
    refine v_callVX (rest := []) C (c_X4_waive l hl G x g s (nI ts) (nI q) h9 xi9 hw) K_L_203 xi9.1.1.1 rfl rfl (Nat.le_of_ble_eq_true rfl) ⟨Nat.le_of_ble_eq_true rfl, Nat.le_of_ble_eq_true rfl⟩ ⟨by show cs + 10 ≤ 670155; omega, by show sl + 200 ≤ 7091004; omega⟩ dL_law_1857 (fun r10 h10 w10 => ?_) (fun E10 h10 w10 => ?_)
    · obtain ⟨-, er10, g10, xi10, fz10⟩ := w10
      have lw10 := lw9.fr fz10
      have fr10 := fz10
      replace er10 := er10.trans (by rw [cl_nI (show ts < 2 ^ 31 by omega), cl_nI (show q < 2 ^ 31 by omega)])
      subst er10
      refine v_aload C 15 rfl dL_law_1860 ?_
      refine v_bipush (v := 32) C dL_law_1862 (by decide) ?_
      refine v_iload C 2 rfl dL_law_1864 ?_
      refine v_imul C dL_law_1866 (v_eqi (nI_kml ts 32 (by decide)) ?_)
      refine v_bipush (v := 22) C dL_law_1867 (by decide) ?_
      refine v_iadd C dL_law_1869 (v_eqi (nI_adk (32 * ts) 22 (by decide)) ?_)
      refine v_iload C 1 rfl dL_law_1870 ?_
      refine v_iadd C dL_law_1872 (v_eqi (nI_add ((32 * ts) + 22) q) ?_)
      refine v_iald C (lw10.1.2.2.2.2.1) (vpin (show 32 * ts + 22 + q < 64 by omega) (by decide)) dL_law_1873 (v_eqi (y := (b01 (!(rV s ts q)))) ((congrArg (up2 B (32 * ts + 22 + q) (b01 (!(rV s ts q)))) (nI_clamp (show 32 * ts + 22 + q < 2 ^ 31 by omega))).trans (up2_s)) ?_)
      refine v_iconst (v := 1) C dL_law_1874 (by decide) ?_
      refine v_icmp_ne (tgt := 1882) C dL_law_1875 (by decide) (fun c14 => ?_) (fun c14 => ?_)
      · refine v_iconst (v := 0) C dL_law_1882 (by decide) ?_
        refine v_icmp_eq (tgt := 2268) C dL_law_1883 (by decide) (fun c15 => ?_) (fun c15 => absurd (b01_z c14) c15)
        refine v_lvp (lv2 := [(20, .int (nI q)), (16, .int y0), (14, .int (nI t0)), (13, .int (nI (bN (nWaive s (nI ts) (nI q))))), (12, .int (nI (rN (nWaive s (nI ts) (nI q))))), (11, .int (nI (oN (nWaive s (nI ts) (nI q))))), (10, .int (nI (oS (nWaive s (nI ts) (nI q))).length)), (9, .int (nI N)), (8, .ref (ad 6)), (7, .ref (ad 5)), (6, .ref (ad 4)), (5, .ref (ad 3)), (4, .ref (ad 2)), (3, .ref (ad 1)), (2, .ref (ad 0)), (1, .ref x), (0, .ref sb)]) [1, 5, 7, 8, 9, 10, 11, 12, 13, 14, 15, 16, 17, 18, 19, 20, 21] rfl ?_
        exact v_widen (by omega) (by omega) (chk _ _ _ _ _ _ _ _ _ _ _ _ _ ⟨xi10, (wf_waive hw (c_wai hR2 (by omega) (by omega))), lw10, ((rs_waive li.2.2.2 (by omega) hq rfl).mono (by omega))⟩)
      · refine v_iconst (v := 1) C dL_law_1878 (by decide) ?_
        refine v_goto (tgt := 1883) C dL_law_1879 (by decide) ?_
        refine v_icmp_eq (tgt := 2268) C dL_law_1883 (by decide) (fun c16 => ?_) (fun c16 => absurd c14 c16)
        refine v_lvp (lv2 := [(20, .int (nI q)), (16, .int y0), (14, .int (nI t0)), (13, .int (nI (bN (nWaive s (nI ts) (nI q))))), (12, .int (nI (rN (nWaive s (nI ts) (nI q))))), (11, .int (nI (oN (nWaive s (nI ts) (nI q))))), (10, .int (nI (oS (nWaive s (nI ts) (nI q))).length)), (9, .int (nI N)), (8, .ref (ad 6)), (7, .ref (ad 5)), (6, .ref (ad 4)), (5, .ref (ad 3)), (4, .ref (ad 2)), (3, .ref (ad 1)), (2, .ref (ad 0)), (1, .ref x), (0, .ref sb)]) [1, 5, 7, 8, 9, 10, 11, 12, 13, 14, 15, 16, 17, 18, 19, 20, 21] rfl ?_
        exact v_widen (by omega) (by omega) (chk _ _ _ _ _ _ _ _ _ _ _ _ _ ⟨xi10, (wf_waive hw (c_wai hR2 (by omega) (by omega))), lw10, ((rs_waive li.2.2.2 (by omega) hq rfl).mono (by omega))⟩)
    · exact absurd ((c_wai hR2 (by omega) (by omega)).symm.trans w10.2.1) (by decide)
  · have c1 := (nk_ne_f (a := (rN s)) 0 (by decide) (by omega) (by decide)).mp c1
    refine v_goto (tgt := 2313) C dL_law_1819 (by decide) ?_
    refine v_lvp [7, 8, 9, 10, 11, 12, 13, 14, 15, 16, 17, 18, 19, 20, 21] rfl ?_
    exact v_widen (by omega) (by omega) (next _ _ _ _ _ _ _ _ _ _ _ _ _ ⟨hi, hw, lx, li.2.2.2.mono (by omega)⟩)

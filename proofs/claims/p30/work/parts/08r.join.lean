set_option maxHeartbeats 8000000 in
set_option maxRecDepth 100000 in
theorem law_join {zp : Program} {l : Launch} {ze : Env} {zs : State} {zm : MethodId} {zargs : Array Value} {zbelow : List Frame} {zmeth : Method} {zc : Code} {G : zG} (hl : l.stackTraces = false) (C : zOK zp l ze room_1 zs zm zargs zbelow zmeth zc G cL_law 29 RL) (hNc : zNc zs) {Q : State → Prop} {sb t0 : Nat} {h : zH} {g : XGh} {x : Nat} {ad : Nat → Nat} {s : ZS} {F : Nat → Nat} {A D : Nat → Int32} {VV : Nat → Nat} {B U : Nat → Int32} {S : Nat → Nat} {T : Nat → List Tok} {lv : Nat → Nat} {N : Nat} (cs sl : Nat) (hcs : cs + 1300 ≤ 670155) (hsl : sl + 45000 ≤ 7091004) (q tm ts up : Nat) (x0 y0 : Int32) (kd : Nat) (li : LI G h g x ad s F A D VV B U S T lv N (700 * t0)) (ht0 : t0 < 60) (hq : q < 9) (htm : tm < oN s ∨ (oN s = 0 ∧ tm = 0)) (hts : ts < rN s ∨ (rN s = 0 ∧ ts = 0)) (hup : 0 < (oS s).length → up = S ((oS s).length - 1))  (chk : ∀ (h2 : zH) (g2 : XGh) (s2 : ZS) (F2 : Nat → Nat) (A2 D2 : Nat → Int32) (VV2 : Nat → Nat) (B2 U2 : Nat → Int32) (S2 : Nat → Nat) (T2 : Nat → List Tok) (lv2 : Nat → Nat) (N2 : Nat), LI G h2 g2 x ad s2 F2 A2 D2 VV2 B2 U2 S2 T2 lv2 N2 (700 * (t0 + 1)) → V zp l ze room_1 zs zm zargs zbelow zmeth zc G 29 Q h2 (cs + 200) (sl + 20000) 2268 [(20, .int (nI q)), (16, .int y0), (14, .int (nI t0)), (13, .int (nI (bN s2))), (12, .int (nI (rN s2))), (11, .int (nI (oN s2))), (10, .int (nI (oS s2).length)), (9, .int (nI N2)), (8, .ref (ad 6)), (7, .ref (ad 5)), (6, .ref (ad 4)), (5, .ref (ad 3)), (4, .ref (ad 2)), (3, .ref (ad 1)), (2, .ref (ad 0)), (1, .ref x), (0, .ref sb)] []) (next : ∀ (h2 : zH) (g2 : XGh) (s2 : ZS) (F2 : Nat → Nat) (A2 D2 : Nat → Int32) (VV2 : Nat → Nat) (B2 U2 : Nat → Int32) (S2 : Nat → Nat) (T2 : Nat → List Tok) (lv2 : Nat → Nat) (N2 : Nat), LI G h2 g2 x ad s2 F2 A2 D2 VV2 B2 U2 S2 T2 lv2 N2 (700 * (t0 + 1)) → V zp l ze room_1 zs zm zargs zbelow zmeth zc G 29 Q h2 (cs + 1300) (sl + 45000) 2313 [(14, .int (nI t0)), (13, .int (nI (bN s2))), (12, .int (nI (rN s2))), (11, .int (nI (oN s2))), (10, .int (nI (oS s2).length)), (9, .int (nI N2)), (8, .ref (ad 6)), (7, .ref (ad 5)), (6, .ref (ad 4)), (5, .ref (ad 3)), (4, .ref (ad 2)), (3, .ref (ad 1)), (2, .ref (ad 0)), (1, .ref x), (0, .ref sb)] []) : V zp l ze room_1 zs zm zargs zbelow zmeth zc G 29 Q h (cs) (sl) 580 [(21, .int (nI up)), (20, .int (nI q)), (19, .int (nI ts)), (18, .int (nI tm)), (17, .int (nI kd)), (16, .int y0), (15, .int x0), (14, .int (nI t0)), (13, .int (nI (bN s))), (12, .int (nI (rN s))), (11, .int (nI (oN s))), (10, .int (nI (oS s).length)), (9, .int (nI N)), (8, .ref (ad 6)), (7, .ref (ad 5)), (6, .ref (ad 4)), (5, .ref (ad 3)), (4, .ref (ad 2)), (3, .ref (ad 1)), (2, .ref (ad 0)), (1, .ref x), (0, .ref sb)] [] := by
  obtain ⟨hi, hw, lx, he, hs, hV, hd, hT, hU⟩ := id li
  have hM := he.1
  have hN6 := he.2.1
  have hK8 := hw.1
  have hR2 := hT.1
  have hB2 := hU.1
  refine v_iload C 6 rfl dL_law_580 ?_
  refine v_iconst (v := 5) C dL_law_582 (by decide) ?_
  refine v_ishr C dL_law_583 (v_topi (fun i1 e1 => ?_))
  refine v_iconst (v := 4) C dL_law_584 (by decide) ?_
  refine v_callS (rest := []) C (c_L_low l hl G i1 4 h (by decide) (by omega)) S_L_178 rfl rfl (Nat.le_of_ble_eq_true rfl) ⟨Nat.le_of_ble_eq_true rfl, Nat.le_of_ble_eq_true rfl⟩ ⟨by show cs + 0 ≤ 670155; omega, by show sl + 0 ≤ 7091004; omega⟩ dL_law_585 (fun i2 h2 q2 => ?_)
  obtain ⟨e2, rfl⟩ := q2
  obtain ⟨u2, hu2, eu2⟩ : ∃ u, u < 4 ∧ lw i1 4 = u := ⟨_, lw_lt (by decide), rfl⟩
  rw [eu2] at e2; subst e2
  refine v_istore C [(22, .int (nI u2)), (21, .int (nI up)), (20, .int (nI q)), (19, .int (nI ts)), (18, .int (nI tm)), (17, .int (nI kd)), (16, .int y0), (15, .int x0), (14, .int (nI t0)), (13, .int (nI (bN s))), (12, .int (nI (rN s))), (11, .int (nI (oN s))), (10, .int (nI (oS s).length)), (9, .int (nI N)), (8, .ref (ad 6)), (7, .ref (ad 5)), (6, .ref (ad 4)), (5, .ref (ad 3)), (4, .ref (ad 2)), (3, .ref (ad 1)), (2, .ref (ad 0)), (1, .ref x), (0, .ref sb)] rfl (by decide) dL_law_588 ?_
  refine v_iload C 12 rfl dL_law_590 ?_
  refine v_iconst (v := 2) C dL_law_592 (by decide) ?_
  refine v_icmp_lt (tgt := 627) C dL_law_593 (by decide) (fun c3 => ?_) (fun c3 => ?_)
  · have c3 := (nk_lt (a := (oS s).length) 2 (by decide) (by omega) (by decide)).mp c3
    refine v_aload_n C 21 rfl dL_law_627 rfl ?_
    refine v_iconst (v := 1) C dL_law_628 (by decide) ?_
    refine v_iload C 0 rfl dL_law_629 ?_
    refine v_iconst (v := 0) C dL_law_631 (by decide) ?_
    refine v_iconst (v := 0) C dL_law_632 (by decide) ?_
    refine v_callL (rest := []) C hNc (c_L_refused_join_3 l hl G x g s (nI u2) 0 0 h hi hw (c_jn2 (by omega) (Or.inl (by omega)))) CL_L_151 rfl rfl (Nat.le_of_ble_eq_true rfl) ⟨Nat.le_of_ble_eq_true rfl, Nat.le_of_ble_eq_true rfl⟩ ⟨by show cs + 0 + 20 ≤ 670155; omega, by show sl + 0 + 9000 ≤ 7091004; omega⟩ dL_law_633 (fun r4 h4 w4 => ?_)
    obtain ⟨e4, rfl⟩ := w4; subst e4
    refine v_iconst (v := 3) C dL_law_636 (by decide) ?_
    refine v_icmp_eq (tgt := 2313) C dL_law_637 (by decide) (fun c5 => ?_) (fun c5 => absurd c5 (by decide))
    refine v_lvp [8, 9, 10, 11, 12, 13, 14, 15, 16, 17, 18, 19, 20, 21, 22] rfl ?_
    exact v_widen (by omega) (by omega) (next _ _ _ _ _ _ _ _ _ _ _ _ _ ⟨hi, hw, lx, li.2.2.2.mono (by omega)⟩)
  · have c3 := (nk_lt_f (a := (oS s).length) 2 (by decide) (by omega) (by decide)).mp c3
    obtain ⟨hupN, ht1⟩ := hs.top1 (by omega)
    rw [← hup (by omega)] at hupN ht1
    have hlu := he.2.2.1 up hupN
    have hlu6 := hlu.2.1
    have hlu1 := hlu.1
    refine v_aload_n C 20 rfl dL_law_596 rfl ?_
    refine v_iconst (v := 4) C dL_law_597 (by decide) ?_
    refine v_iload C 1 rfl dL_law_598 ?_
    refine v_imul C dL_law_600 (v_eqi (nI_kml up 4 (by decide)) ?_)
    refine v_iconst (v := 3) C dL_law_601 (by decide) ?_
    refine v_iadd C dL_law_602 (v_eqi (nI_adk (4 * up) 3 (by decide)) ?_)
    refine v_iald C (lx.1.1) (vpin (show 4 * up + 3 < 60 by omega) (by decide)) dL_law_603 (v_eqi (y := nI (lv up)) ((congrArg (fun j => nI (F j)) (nI_clamp (show 4 * up + 3 < 2 ^ 31 by omega))).trans (congrArg nI ((he.2.2.1 up hupN).2.2.1))) ?_)
    refine v_bipush (v := 6) C dL_law_604 (by decide) ?_
    refine v_icmp_eq (tgt := 627) C dL_law_606 (by decide) (fun c8 => ?_) (fun c8 => ?_)
    · have c8 := (nk_eq (a := (lv up)) 6 (by decide) (by omega) (by decide)).mp c8
      refine v_aload_n C 21 rfl dL_law_627 rfl ?_
      refine v_iconst (v := 1) C dL_law_628 (by decide) ?_
      refine v_iload C 0 rfl dL_law_629 ?_
      refine v_iconst (v := 0) C dL_law_631 (by decide) ?_
      refine v_iconst (v := 0) C dL_law_632 (by decide) ?_
      refine v_callL (rest := []) C hNc (c_L_refused_join_3 l hl G x g s (nI u2) 0 0 h hi hw (c_jn2 (by omega) (Or.inr (Or.inr (by rw [ht1]; exact c8))))) CL_L_151 rfl rfl (Nat.le_of_ble_eq_true rfl) ⟨Nat.le_of_ble_eq_true rfl, Nat.le_of_ble_eq_true rfl⟩ ⟨by show cs + 0 + 20 ≤ 670155; omega, by show sl + 0 + 9000 ≤ 7091004; omega⟩ dL_law_633 (fun r9 h9 w9 => ?_)
      obtain ⟨e9, rfl⟩ := w9; subst e9
      refine v_iconst (v := 3) C dL_law_636 (by decide) ?_
      refine v_icmp_eq (tgt := 2313) C dL_law_637 (by decide) (fun c10 => ?_) (fun c10 => absurd c10 (by decide))
      refine v_lvp [8, 9, 10, 11, 12, 13, 14, 15, 16, 17, 18, 19, 20, 21, 22] rfl ?_
      exact v_widen (by omega) (by omega) (next _ _ _ _ _ _ _ _ _ _ _ _ _ ⟨hi, hw, lx, li.2.2.2.mono (by omega)⟩)
    · have c8 := (nk_eq_f (a := (lv up)) 6 (by decide) (by omega) (by decide)).mp c8
      obtain ⟨hoN, ht2⟩ := hs.top2 (by omega)
      obtain ⟨one, hone⟩ : ∃ one, S ((oS s).length - 2) = one := ⟨_, rfl⟩
      rw [hone] at hoN ht2
      have hlo := he.2.2.1 one hoN
      have hlo6 := hlo.2.1
      have hlo1 := hlo.1
      refine v_aload_n C 20 rfl dL_law_609 rfl ?_
      refine v_iconst (v := 4) C dL_law_610 (by decide) ?_
      refine v_aload C 14 rfl dL_law_611 ?_
      refine v_iload C 12 rfl dL_law_613 ?_
      refine v_iconst (v := 2) C dL_law_615 (by decide) ?_
      refine v_isub C dL_law_616 (v_eqi (nI_sbk (a := (oS s).length) 2 (by decide) (by omega)) ?_)
      refine v_iald C (lx.1.2.2.2.2.2.2) (vpin (show (oS s).length - 2 < 8 by omega) (by decide)) dL_law_617 (v_eqi (y := nI one) ((congrArg (fun j => nI (S j)) (nI_clamp (show (oS s).length - 2 < 2 ^ 31 by omega))).trans (congrArg nI (hone))) ?_)
      refine v_imul C dL_law_618 (v_eqi (nI_kml one 4 (by decide)) ?_)
      refine v_iconst (v := 3) C dL_law_619 (by decide) ?_
      refine v_iadd C dL_law_620 (v_eqi (nI_adk (4 * one) 3 (by decide)) ?_)
      refine v_iald C (lx.1.1) (vpin (show 4 * one + 3 < 60 by omega) (by decide)) dL_law_621 (v_eqi (y := nI (lv one)) ((congrArg (fun j => nI (F j)) (nI_clamp (show 4 * one + 3 < 2 ^ 31 by omega))).trans (congrArg nI ((he.2.2.1 one hoN).2.2.1))) ?_)
      refine v_bipush (v := 6) C dL_law_622 (by decide) ?_
      refine v_icmp_ne (tgt := 642) C dL_law_624 (by decide) (fun c14 => ?_) (fun c14 => ?_)
      · have c14 := (nk_ne (a := (lv one)) 6 (by decide) (by omega) (by decide)).mp c14
        refine v_iload C 13 rfl dL_law_642 ?_
        refine v_bipush (v := 15) C dL_law_644 (by decide) ?_
        refine v_icmp_ne (tgt := 652) C dL_law_646 (by decide) (fun c15 => ?_) (fun c15 => ?_)
        · have c15 := (nk_ne (a := N) 15 (by decide) (by omega) (by decide)).mp c15
          refine v_aload C 14 rfl dL_law_652 ?_
          refine v_iload C 12 rfl dL_law_654 ?_
          refine v_iconst (v := 2) C dL_law_656 (by decide) ?_
          refine v_isub C dL_law_657 (v_eqi (nI_sbk (a := (oS s).length) 2 (by decide) (by omega)) ?_)
          refine v_iald C (lx.1.2.2.2.2.2.2) (vpin (show (oS s).length - 2 < 8 by omega) (by decide)) dL_law_658 (v_eqi (y := nI one) ((congrArg (fun j => nI (S j)) (nI_clamp (show (oS s).length - 2 < 2 ^ 31 by omega))).trans (congrArg nI (hone))) ?_)
          refine v_istore C [(23, .int (nI one)), (22, .int (nI u2)), (21, .int (nI up)), (20, .int (nI q)), (19, .int (nI ts)), (18, .int (nI tm)), (17, .int (nI kd)), (16, .int y0), (15, .int x0), (14, .int (nI t0)), (13, .int (nI (bN s))), (12, .int (nI (rN s))), (11, .int (nI (oN s))), (10, .int (nI (oS s).length)), (9, .int (nI N)), (8, .ref (ad 6)), (7, .ref (ad 5)), (6, .ref (ad 4)), (5, .ref (ad 3)), (4, .ref (ad 2)), (3, .ref (ad 1)), (2, .ref (ad 0)), (1, .ref x), (0, .ref sb)] rfl (by decide) dL_law_659 ?_
          refine v_aload_n C 21 rfl dL_law_661 rfl ?_
          refine v_iconst (v := 4) C dL_law_662 (by decide) ?_
          refine v_iload C 14 rfl dL_law_663 ?_
          refine v_imul C dL_law_665 (v_eqi (nI_kml N 4 (by decide)) ?_)
          refine v_iload C 1 rfl dL_law_666 ?_
          refine v_iast C (lx.1.1) (vpin (show 4 * N < 60 by omega) (by decide)) dL_law_668 (v_nw (fun h18 eh18 => ?_))
          have lw18 := lx.p0 (i := 4 * N) (v := u2) (by omega) eh18
          have xi18 := lx.xi hi (i := 0) (by decide) eh18
          refine v_aload_n C 21 rfl dL_law_669 rfl ?_
          refine v_iconst (v := 4) C dL_law_670 (by decide) ?_
          refine v_iload C 14 rfl dL_law_671 ?_
          refine v_imul C dL_law_673 (v_eqi (nI_kml N 4 (by decide)) ?_)
          refine v_iconst (v := 1) C dL_law_674 (by decide) ?_
          refine v_iadd C dL_law_675 (v_eqi (nI_adk (4 * N) 1 (by decide)) ?_)
          refine v_iload C 0 rfl dL_law_676 ?_
          refine v_iast C (lw18.1.1) (vpin (show 4 * N + 1 < 60 by omega) (by decide)) dL_law_678 (v_nw (fun h21 eh21 => ?_))
          have lw21 := lw18.p0 (i := 4 * N + 1) (v := one) (by omega) eh21
          have xi21 := lw18.xi xi18 (i := 0) (by decide) eh21
          refine v_aload_n C 21 rfl dL_law_679 rfl ?_
          refine v_iconst (v := 4) C dL_law_680 (by decide) ?_
          refine v_iload C 14 rfl dL_law_681 ?_
          refine v_imul C dL_law_683 (v_eqi (nI_kml N 4 (by decide)) ?_)
          refine v_iconst (v := 2) C dL_law_684 (by decide) ?_
          refine v_iadd C dL_law_685 (v_eqi (nI_adk (4 * N) 2 (by decide)) ?_)
          refine v_iload C 2 rfl dL_law_686 ?_
          refine v_iast C (lw21.1.1) (vpin (show 4 * N + 2 < 60 by omega) (by decide)) dL_law_688 (v_nw (fun h24 eh24 => ?_))
          have lw24 := lw21.p0 (i := 4 * N + 2) (v := up) (by omega) eh24
          have xi24 := lw21.xi xi21 (i := 0) (by decide) eh24
          refine v_aload_n C 21 rfl dL_law_689 rfl ?_
          refine v_iconst (v := 4) C dL_law_690 (by decide) ?_
          refine v_iload C 14 rfl dL_law_691 ?_
          refine v_imul C dL_law_693 (v_eqi (nI_kml N 4 (by decide)) ?_)
          refine v_iconst (v := 3) C dL_law_694 (by decide) ?_
          refine v_iadd C dL_law_695 (v_eqi (nI_adk (4 * N) 3 (by decide)) ?_)
          refine v_iconst (v := 1) C dL_law_696 (by decide) ?_
          refine v_aload_n C 21 rfl dL_law_697 rfl ?_
          refine v_iconst (v := 4) C dL_law_698 (by decide) ?_
          refine v_iload C 0 rfl dL_law_699 ?_
          refine v_imul C dL_law_701 (v_eqi (nI_kml one 4 (by decide)) ?_)
          refine v_iconst (v := 3) C dL_law_702 (by decide) ?_
          refine v_iadd C dL_law_703 (v_eqi (nI_adk (4 * one) 3 (by decide)) ?_)
          refine v_iald C (lw24.1.1) (vpin (show 4 * one + 3 < 60 by omega) (by decide)) dL_law_704 (v_eqi (y := nI (lv one)) ((congrArg (fun j => nI ((upN (upN (upN F (4 * N) u2) (4 * N + 1) one) (4 * N + 2) up) j)) (nI_clamp (show 4 * one + 3 < 2 ^ 31 by omega))).trans (congrArg nI ((upN_n (by omega)).trans ((upN_n (by omega)).trans ((upN_n (by omega)).trans ((he.2.2.1 one hoN).2.2.1)))))) ?_)
          refine v_aload_n C 21 rfl dL_law_705 rfl ?_
          refine v_iconst (v := 4) C dL_law_706 (by decide) ?_
          refine v_iload C 2 rfl dL_law_707 ?_
          refine v_imul C dL_law_709 (v_eqi (nI_kml up 4 (by decide)) ?_)
          refine v_iconst (v := 3) C dL_law_710 (by decide) ?_
          refine v_iadd C dL_law_711 (v_eqi (nI_adk (4 * up) 3 (by decide)) ?_)
          refine v_iald C (lw24.1.1) (vpin (show 4 * up + 3 < 60 by omega) (by decide)) dL_law_712 (v_eqi (y := nI (lv up)) ((congrArg (fun j => nI ((upN (upN (upN F (4 * N) u2) (4 * N + 1) one) (4 * N + 2) up) j)) (nI_clamp (show 4 * up + 3 < 2 ^ 31 by omega))).trans (congrArg nI ((upN_n (by omega)).trans ((upN_n (by omega)).trans ((upN_n (by omega)).trans ((he.2.2.1 up hupN).2.2.1)))))) ?_)
          refine v_icmp_le (tgt := 727) C dL_law_713 (by decide) (fun c31 => ?_) (fun c31 => ?_)
          · have c31 := (nn_le (a := (lv one)) (b := (lv up)) (by omega) (by omega)).mp c31
            refine v_aload_n C 21 rfl dL_law_727 rfl ?_
            refine v_iconst (v := 4) C dL_law_728 (by decide) ?_
            refine v_iload C 2 rfl dL_law_729 ?_
            refine v_imul C dL_law_731 (v_eqi (nI_kml up 4 (by decide)) ?_)
            refine v_iconst (v := 3) C dL_law_732 (by decide) ?_
            refine v_iadd C dL_law_733 (v_eqi (nI_adk (4 * up) 3 (by decide)) ?_)
            refine v_iald C (lw24.1.1) (vpin (show 4 * up + 3 < 60 by omega) (by decide)) dL_law_734 (v_eqi (y := nI (lv up)) ((congrArg (fun j => nI ((upN (upN (upN F (4 * N) u2) (4 * N + 1) one) (4 * N + 2) up) j)) (nI_clamp (show 4 * up + 3 < 2 ^ 31 by omega))).trans (congrArg nI ((upN_n (by omega)).trans ((upN_n (by omega)).trans ((upN_n (by omega)).trans ((he.2.2.1 up hupN).2.2.1)))))) ?_)
            refine v_iadd C dL_law_735 (v_eqi (nI_kad (lv up) 1 (by decide)) ?_)
            refine v_iast C (lw24.1.1) (vpin (show 4 * N + 3 < 60 by omega) (by decide)) dL_law_736 (v_nw (fun h35 eh35 => ?_))
            have lw35 := lw24.p0 (i := 4 * N + 3) (v := 1 + (lv up)) (by omega) eh35
            have xi35 := lw24.xi xi24 (i := 0) (by decide) eh35
            refine v_iinc C 13 [(10, .int (nI ((oS s).length - 1))), (23, .int (nI one)), (22, .int (nI u2)), (21, .int (nI up)), (20, .int (nI q)), (19, .int (nI ts)), (18, .int (nI tm)), (17, .int (nI kd)), (16, .int y0), (15, .int x0), (14, .int (nI t0)), (13, .int (nI (bN s))), (12, .int (nI (rN s))), (11, .int (nI (oN s))), (9, .int (nI N)), (8, .ref (ad 6)), (7, .ref (ad 5)), (6, .ref (ad 4)), (5, .ref (ad 3)), (4, .ref (ad 2)), (3, .ref (ad 1)), (2, .ref (ad 0)), (1, .ref x), (0, .ref sb)] rfl (nI_dec (p := (oS s).length) (by omega)) rfl (by decide) dL_law_737 ?_
            refine v_aload C 15 rfl dL_law_740 ?_
            refine v_iload C 0 rfl dL_law_742 ?_
            refine v_iconst (v := 1) C dL_law_744 (by decide) ?_
            refine v_isub C dL_law_745 (v_eqi (nI_sbk (a := ((oS s).length - 1)) 1 (by decide) (by omega)) ?_)
            refine v_iload C 14 rfl dL_law_746 ?_
            refine v_iast C (lw35.1.2.2.2.2.2.2) (vpin (show (oS s).length - 1 - 1 < 8 by omega) (by decide)) dL_law_748 (v_nw (fun h38 eh38 => ?_))
            have lw38 := lw35.p6 (i := (oS s).length - 1 - 1) (v := N) (by omega) eh38
            have xi38 := lw35.xi xi35 (i := 6) (by decide) eh38
            refine v_iinc C 14 [(9, .int (nI (N + 1))), (10, .int (nI ((oS s).length - 1))), (23, .int (nI one)), (22, .int (nI u2)), (21, .int (nI up)), (20, .int (nI q)), (19, .int (nI ts)), (18, .int (nI tm)), (17, .int (nI kd)), (16, .int y0), (15, .int x0), (14, .int (nI t0)), (13, .int (nI (bN s))), (12, .int (nI (rN s))), (11, .int (nI (oN s))), (8, .ref (ad 6)), (7, .ref (ad 5)), (6, .ref (ad 4)), (5, .ref (ad 3)), (4, .ref (ad 2)), (3, .ref (ad 1)), (2, .ref (ad 0)), (1, .ref x), (0, .ref sb)] rfl (nI_inc N 1 (by decide)) rfl (by decide) dL_law_749 ?_
            refine v_aload_n C 22 rfl dL_law_752 rfl ?_
            refine v_iload C 3 rfl dL_law_753 ?_
            refine v_callVX (rest := []) C (c_X4_join l hl G x g s (nI u2) h38 xi38 hw) K_L_96 xi38.1.1.1 rfl rfl (Nat.le_of_ble_eq_true rfl) ⟨Nat.le_of_ble_eq_true rfl, Nat.le_of_ble_eq_true rfl⟩ ⟨by show cs + 0 + 20 ≤ 670155; omega, by show sl + 0 + 9000 ≤ 7091004; omega⟩ dL_law_755 (fun r40 h40 w40 => ?_) (fun E40 h40 w40 => ?_)
            · obtain ⟨-, er40, g40, xi40, fz40⟩ := w40
              have lw40 := lw38.fr fz40
              have fr40 := fz40
              replace er40 := er40.trans (rfl)
              subst er40
              have P0 : (upN (upN (upN (upN F (4 * N) u2) (4 * N + 1) one) (4 * N + 2) up) (4 * N + 3) (1 + (lv up))) (4 * N) = u2 := ((upN_n (by omega)).trans ((upN_n (by omega)).trans ((upN_n (by omega)).trans (upN_s))))
              have P1 : (upN (upN (upN (upN F (4 * N) u2) (4 * N + 1) one) (4 * N + 2) up) (4 * N + 3) (1 + (lv up))) (4 * N + 1) = one := ((upN_n (by omega)).trans ((upN_n (by omega)).trans (upN_s)))
              have P2 : (upN (upN (upN (upN F (4 * N) u2) (4 * N + 1) one) (4 * N + 2) up) (4 * N + 3) (1 + (lv up))) (4 * N + 2) = up := ((upN_n (by omega)).trans (upN_s))
              have P3 : (upN (upN (upN (upN F (4 * N) u2) (4 * N + 1) one) (4 * N + 2) up) (4 * N + 3) (1 + (lv up))) (4 * N + 3) = 1 + (lv up) := (upN_s)
              have f1 : (fJoin s (nI u2)).1 = T one ++ T up ++ [(u2, 0)] := by show (top2 s).1 ++ (top1 s).1 ++ [(cl (nI u2), 0)] = _; rw [ht1, ht2, cl_nI (show u2 < 2 ^ 31 by omega)]
              have f2 : (fJoin s (nI u2)).2 = 1 + max (lv one) (lv up) := by show 1 + max (top2 s).2 (top1 s).2 = _; rw [ht1, ht2]
              refine v_iload C 1 rfl dL_law_758 ?_
              refine v_icmp_eq (tgt := 765) C dL_law_760 (by decide) (fun c41 => ?_) (fun c41 => absurd rfl c41)
              refine v_goto (tgt := 2268) C dL_law_765 (by decide) ?_
              have hlen : (oS (nJoin s (nI u2))).length = (oS s).length - 1 := (by show ((oS s).dropLast.dropLast ++ [_]).length = _; rw [List.length_append, List.length_dropLast, List.length_dropLast]; show _ + 1 = _; omega)
              refine v_lvp (lv2 := [(20, .int (nI q)), (16, .int y0), (14, .int (nI t0)), (13, .int (nI (bN (nJoin s (nI u2))))), (12, .int (nI (rN (nJoin s (nI u2))))), (11, .int (nI (oN (nJoin s (nI u2))))), (10, .int (nI (oS (nJoin s (nI u2))).length)), (9, .int (nI (N + 1))), (8, .ref (ad 6)), (7, .ref (ad 5)), (6, .ref (ad 4)), (5, .ref (ad 3)), (4, .ref (ad 2)), (3, .ref (ad 1)), (2, .ref (ad 0)), (1, .ref x), (0, .ref sb)]) [5, 9, 11, 12, 13, 14, 1, 0, 15, 16, 17, 18, 19, 20, 21, 22, 23] (by rw [hlen]; rfl) ?_
              exact v_widen (by omega) (by omega) (chk _ _ _ _ _ _ _ _ _ _ _ _ _ ⟨xi40, (wf_join hw (c_jn (by omega) (by omega) (by rw [ht2]; exact c14) (by rw [ht1]; exact c8))), lw40, (rs_new (F2 := (upN (upN (upN (upN F (4 * N) u2) (4 * N + 1) one) (4 * N + 2) up) (4 * N + 3) (1 + (lv up)))) (m := ((oS s).length - 1 - 1)) (f := (fJoin s (nI u2))) li.2.2.2 (by omega) (by omega) (show (oS s).dropLast.dropLast ++ [(fJoin s (nI u2))] = _ by rw [dl2_take, show (oS s).length - 1 - 1 = (oS s).length - 2 by omega]) (fun j hj => (upN_n (by omega)).trans ((upN_n (by omega)).trans ((upN_n (by omega)).trans ((upN_n (by omega)).trans (rfl))))) (fe_new (F2 := (upN (upN (upN (upN F (4 * N) u2) (4 * N + 1) one) (4 * N + 2) up) (4 * N + 3) (1 + (lv up)))) (f := (fJoin s (nI u2))) (by rw [f2]; omega) (by rw [f2]; omega) (by rw [P3, f2]; omega) (Or.inr (Or.inr (Or.inr (Or.inl ⟨by rw [P0]; omega, by rw [P1]; omega, by rw [P2]; omega, by rw [f1, P0, P1, P2], by rw [f2, P1, P2]⟩)))))).mono (by omega)⟩)
            · obtain ⟨-, w40⟩ := w40
              rcases w40 with ⟨ek, -⟩ | ⟨ek, -⟩
              · exact absurd ((c_jn (by omega) (by omega) (by rw [ht2]; exact c14) (by rw [ht1]; exact c8)).symm.trans ek) (by decide)
              · exact absurd ((c_jn (by omega) (by omega) (by rw [ht2]; exact c14) (by rw [ht1]; exact c8)).symm.trans ek) (by decide)
          · have c31 := (nn_le_f (a := (lv one)) (b := (lv up)) (by omega) (by omega)).mp c31
            refine v_aload_n C 21 rfl dL_law_716 rfl ?_
            refine v_iconst (v := 4) C dL_law_717 (by decide) ?_
            refine v_iload C 0 rfl dL_law_718 ?_
            refine v_imul C dL_law_720 (v_eqi (nI_kml one 4 (by decide)) ?_)
            refine v_iconst (v := 3) C dL_law_721 (by decide) ?_
            refine v_iadd C dL_law_722 (v_eqi (nI_adk (4 * one) 3 (by decide)) ?_)
            refine v_iald C (lw24.1.1) (vpin (show 4 * one + 3 < 60 by omega) (by decide)) dL_law_723 (v_eqi (y := nI (lv one)) ((congrArg (fun j => nI ((upN (upN (upN F (4 * N) u2) (4 * N + 1) one) (4 * N + 2) up) j)) (nI_clamp (show 4 * one + 3 < 2 ^ 31 by omega))).trans (congrArg nI ((upN_n (by omega)).trans ((upN_n (by omega)).trans ((upN_n (by omega)).trans ((he.2.2.1 one hoN).2.2.1)))))) ?_)
            refine v_goto (tgt := 735) C dL_law_724 (by decide) ?_
            refine v_iadd C dL_law_735 (v_eqi (nI_kad (lv one) 1 (by decide)) ?_)
            refine v_iast C (lw24.1.1) (vpin (show 4 * N + 3 < 60 by omega) (by decide)) dL_law_736 (v_nw (fun h45 eh45 => ?_))
            have lw45 := lw24.p0 (i := 4 * N + 3) (v := 1 + (lv one)) (by omega) eh45
            have xi45 := lw24.xi xi24 (i := 0) (by decide) eh45
            refine v_iinc C 13 [(10, .int (nI ((oS s).length - 1))), (23, .int (nI one)), (22, .int (nI u2)), (21, .int (nI up)), (20, .int (nI q)), (19, .int (nI ts)), (18, .int (nI tm)), (17, .int (nI kd)), (16, .int y0), (15, .int x0), (14, .int (nI t0)), (13, .int (nI (bN s))), (12, .int (nI (rN s))), (11, .int (nI (oN s))), (9, .int (nI N)), (8, .ref (ad 6)), (7, .ref (ad 5)), (6, .ref (ad 4)), (5, .ref (ad 3)), (4, .ref (ad 2)), (3, .ref (ad 1)), (2, .ref (ad 0)), (1, .ref x), (0, .ref sb)] rfl (nI_dec (p := (oS s).length) (by omega)) rfl (by decide) dL_law_737 ?_
            refine v_aload C 15 rfl dL_law_740 ?_
            refine v_iload C 0 rfl dL_law_742 ?_
            refine v_iconst (v := 1) C dL_law_744 (by decide) ?_
            refine v_isub C dL_law_745 (v_eqi (nI_sbk (a := ((oS s).length - 1)) 1 (by decide) (by omega)) ?_)
            refine v_iload C 14 rfl dL_law_746 ?_
            refine v_iast C (lw45.1.2.2.2.2.2.2) (vpin (show (oS s).length - 1 - 1 < 8 by omega) (by decide)) dL_law_748 (v_nw (fun h48 eh48 => ?_))
            have lw48 := lw45.p6 (i := (oS s).length - 1 - 1) (v := N) (by omega) eh48
            have xi48 := lw45.xi xi45 (i := 6) (by decide) eh48
            refine v_iinc C 14 [(9, .int (nI (N + 1))), (10, .int (nI ((oS s).length - 1))), (23, .int (nI one)), (22, .int (nI u2)), (21, .int (nI up)), (20, .int (nI q)), (19, .int (nI ts)), (18, .int (nI tm)), (17, .int (nI kd)), (16, .int y0), (15, .int x0), (14, .int (nI t0)), (13, .int (nI (bN s))), (12, .int (nI (rN s))), (11, .int (nI (oN s))), (8, .ref (ad 6)), (7, .ref (ad 5)), (6, .ref (ad 4)), (5, .ref (ad 3)), (4, .ref (ad 2)), (3, .ref (ad 1)), (2, .ref (ad 0)), (1, .ref x), (0, .ref sb)] rfl (nI_inc N 1 (by decide)) rfl (by decide) dL_law_749 ?_
            refine v_aload_n C 22 rfl dL_law_752 rfl ?_
            refine v_iload C 3 rfl dL_law_753 ?_
            refine v_callVX (rest := []) C (c_X4_join l hl G x g s (nI u2) h48 xi48 hw) K_L_96 xi48.1.1.1 rfl rfl (Nat.le_of_ble_eq_true rfl) ⟨Nat.le_of_ble_eq_true rfl, Nat.le_of_ble_eq_true rfl⟩ ⟨by show cs + 0 + 20 ≤ 670155; omega, by show sl + 0 + 9000 ≤ 7091004; omega⟩ dL_law_755 (fun r50 h50 w50 => ?_) (fun E50 h50 w50 => ?_)
            · obtain ⟨-, er50, g50, xi50, fz50⟩ := w50
              have lw50 := lw48.fr fz50
              have fr50 := fz50
              replace er50 := er50.trans (rfl)
              subst er50
              have P0 : (upN (upN (upN (upN F (4 * N) u2) (4 * N + 1) one) (4 * N + 2) up) (4 * N + 3) (1 + (lv one))) (4 * N) = u2 := ((upN_n (by omega)).trans ((upN_n (by omega)).trans ((upN_n (by omega)).trans (upN_s))))
              have P1 : (upN (upN (upN (upN F (4 * N) u2) (4 * N + 1) one) (4 * N + 2) up) (4 * N + 3) (1 + (lv one))) (4 * N + 1) = one := ((upN_n (by omega)).trans ((upN_n (by omega)).trans (upN_s)))
              have P2 : (upN (upN (upN (upN F (4 * N) u2) (4 * N + 1) one) (4 * N + 2) up) (4 * N + 3) (1 + (lv one))) (4 * N + 2) = up := ((upN_n (by omega)).trans (upN_s))
              have P3 : (upN (upN (upN (upN F (4 * N) u2) (4 * N + 1) one) (4 * N + 2) up) (4 * N + 3) (1 + (lv one))) (4 * N + 3) = 1 + (lv one) := (upN_s)
              have f1 : (fJoin s (nI u2)).1 = T one ++ T up ++ [(u2, 0)] := by show (top2 s).1 ++ (top1 s).1 ++ [(cl (nI u2), 0)] = _; rw [ht1, ht2, cl_nI (show u2 < 2 ^ 31 by omega)]
              have f2 : (fJoin s (nI u2)).2 = 1 + max (lv one) (lv up) := by show 1 + max (top2 s).2 (top1 s).2 = _; rw [ht1, ht2]
              refine v_iload C 1 rfl dL_law_758 ?_
              refine v_icmp_eq (tgt := 765) C dL_law_760 (by decide) (fun c51 => ?_) (fun c51 => absurd rfl c51)
              refine v_goto (tgt := 2268) C dL_law_765 (by decide) ?_
              have hlen : (oS (nJoin s (nI u2))).length = (oS s).length - 1 := (by show ((oS s).dropLast.dropLast ++ [_]).length = _; rw [List.length_append, List.length_dropLast, List.length_dropLast]; show _ + 1 = _; omega)
              refine v_lvp (lv2 := [(20, .int (nI q)), (16, .int y0), (14, .int (nI t0)), (13, .int (nI (bN (nJoin s (nI u2))))), (12, .int (nI (rN (nJoin s (nI u2))))), (11, .int (nI (oN (nJoin s (nI u2))))), (10, .int (nI (oS (nJoin s (nI u2))).length)), (9, .int (nI (N + 1))), (8, .ref (ad 6)), (7, .ref (ad 5)), (6, .ref (ad 4)), (5, .ref (ad 3)), (4, .ref (ad 2)), (3, .ref (ad 1)), (2, .ref (ad 0)), (1, .ref x), (0, .ref sb)]) [5, 9, 11, 12, 13, 14, 1, 0, 15, 16, 17, 18, 19, 20, 21, 22, 23] (by rw [hlen]; rfl) ?_
              exact v_widen (by omega) (by omega) (chk _ _ _ _ _ _ _ _ _ _ _ _ _ ⟨xi50, (wf_join hw (c_jn (by omega) (by omega) (by rw [ht2]; exact c14) (by rw [ht1]; exact c8))), lw50, (rs_new (F2 := (upN (upN (upN (upN F (4 * N) u2) (4 * N + 1) one) (4 * N + 2) up) (4 * N + 3) (1 + (lv one)))) (m := ((oS s).length - 1 - 1)) (f := (fJoin s (nI u2))) li.2.2.2 (by omega) (by omega) (show (oS s).dropLast.dropLast ++ [(fJoin s (nI u2))] = _ by rw [dl2_take, show (oS s).length - 1 - 1 = (oS s).length - 2 by omega]) (fun j hj => (upN_n (by omega)).trans ((upN_n (by omega)).trans ((upN_n (by omega)).trans ((upN_n (by omega)).trans (rfl))))) (fe_new (F2 := (upN (upN (upN (upN F (4 * N) u2) (4 * N + 1) one) (4 * N + 2) up) (4 * N + 3) (1 + (lv one)))) (f := (fJoin s (nI u2))) (by rw [f2]; omega) (by rw [f2]; omega) (by rw [P3, f2]; omega) (Or.inr (Or.inr (Or.inr (Or.inl ⟨by rw [P0]; omega, by rw [P1]; omega, by rw [P2]; omega, by rw [f1, P0, P1, P2], by rw [f2, P1, P2]⟩)))))).mono (by omega)⟩)
            · obtain ⟨-, w50⟩ := w50
              rcases w50 with ⟨ek, -⟩ | ⟨ek, -⟩
              · exact absurd ((c_jn (by omega) (by omega) (by rw [ht2]; exact c14) (by rw [ht1]; exact c8)).symm.trans ek) (by decide)
              · exact absurd ((c_jn (by omega) (by omega) (by rw [ht2]; exact c14) (by rw [ht1]; exact c8)).symm.trans ek) (by decide)
        · have c15 := (nk_ne_f (a := N) 15 (by decide) (by omega) (by decide)).mp c15
          refine v_goto (tgt := 2313) C dL_law_649 (by decide) ?_
          refine v_lvp [8, 9, 10, 11, 12, 13, 14, 15, 16, 17, 18, 19, 20, 21, 22] rfl ?_
          exact v_widen (by omega) (by omega) (next _ _ _ _ _ _ _ _ _ _ _ _ _ ⟨hi, hw, lx, li.2.2.2.mono (by omega)⟩)
      · have c14 := (nk_ne_f (a := (lv one)) 6 (by decide) (by omega) (by decide)).mp c14
        refine v_aload_n C 21 rfl dL_law_627 rfl ?_
        refine v_iconst (v := 1) C dL_law_628 (by decide) ?_
        refine v_iload C 0 rfl dL_law_629 ?_
        refine v_iconst (v := 0) C dL_law_631 (by decide) ?_
        refine v_iconst (v := 0) C dL_law_632 (by decide) ?_
        refine v_callL (rest := []) C hNc (c_L_refused_join_3 l hl G x g s (nI u2) 0 0 h hi hw (c_jn2 (by omega) (Or.inr (Or.inl (by rw [ht2]; exact c14))))) CL_L_151 rfl rfl (Nat.le_of_ble_eq_true rfl) ⟨Nat.le_of_ble_eq_true rfl, Nat.le_of_ble_eq_true rfl⟩ ⟨by show cs + 0 + 20 ≤ 670155; omega, by show sl + 0 + 9000 ≤ 7091004; omega⟩ dL_law_633 (fun r52 h52 w52 => ?_)
        obtain ⟨e52, rfl⟩ := w52; subst e52
        refine v_iconst (v := 3) C dL_law_636 (by decide) ?_
        refine v_icmp_eq (tgt := 2313) C dL_law_637 (by decide) (fun c53 => ?_) (fun c53 => absurd c53 (by decide))
        refine v_lvp [8, 9, 10, 11, 12, 13, 14, 15, 16, 17, 18, 19, 20, 21, 22] rfl ?_
        exact v_widen (by omega) (by omega) (next _ _ _ _ _ _ _ _ _ _ _ _ _ ⟨hi, hw, lx, li.2.2.2.mono (by omega)⟩)
set_option maxHeartbeats 8000000 in
set_option maxRecDepth 100000 in
theorem law_share {zp : Program} {l : Launch} {ze : Env} {zs : State} {zm : MethodId} {zargs : Array Value} {zbelow : List Frame} {zmeth : Method} {zc : Code} {G : zG} (hl : l.stackTraces = false) (C : zOK zp l ze room_1 zs zm zargs zbelow zmeth zc G cL_law 29 RL) (hNc : zNc zs) {Q : State → Prop} {sb t0 : Nat} {h : zH} {g : XGh} {x : Nat} {ad : Nat → Nat} {s : ZS} {F : Nat → Nat} {A D : Nat → Int32} {VV : Nat → Nat} {B U : Nat → Int32} {S : Nat → Nat} {T : Nat → List Tok} {lv : Nat → Nat} {N : Nat} (cs sl : Nat) (hcs : cs + 1300 ≤ 670155) (hsl : sl + 45000 ≤ 7091004) (q tm ts up : Nat) (x0 y0 : Int32)  (li : LI G h g x ad s F A D VV B U S T lv N (700 * t0)) (ht0 : t0 < 60) (hq : q < 9) (htm : tm < oN s ∨ (oN s = 0 ∧ tm = 0)) (hts : ts < rN s ∨ (rN s = 0 ∧ ts = 0)) (hup : 0 < (oS s).length → up = S ((oS s).length - 1))  (chk : ∀ (h2 : zH) (g2 : XGh) (s2 : ZS) (F2 : Nat → Nat) (A2 D2 : Nat → Int32) (VV2 : Nat → Nat) (B2 U2 : Nat → Int32) (S2 : Nat → Nat) (T2 : Nat → List Tok) (lv2 : Nat → Nat) (N2 : Nat), LI G h2 g2 x ad s2 F2 A2 D2 VV2 B2 U2 S2 T2 lv2 N2 (700 * (t0 + 1)) → V zp l ze room_1 zs zm zargs zbelow zmeth zc G 29 Q h2 (cs + 200) (sl + 20000) 2268 [(20, .int (nI q)), (16, .int y0), (14, .int (nI t0)), (13, .int (nI (bN s2))), (12, .int (nI (rN s2))), (11, .int (nI (oN s2))), (10, .int (nI (oS s2).length)), (9, .int (nI N2)), (8, .ref (ad 6)), (7, .ref (ad 5)), (6, .ref (ad 4)), (5, .ref (ad 3)), (4, .ref (ad 2)), (3, .ref (ad 1)), (2, .ref (ad 0)), (1, .ref x), (0, .ref sb)] []) (next : ∀ (h2 : zH) (g2 : XGh) (s2 : ZS) (F2 : Nat → Nat) (A2 D2 : Nat → Int32) (VV2 : Nat → Nat) (B2 U2 : Nat → Int32) (S2 : Nat → Nat) (T2 : Nat → List Tok) (lv2 : Nat → Nat) (N2 : Nat), LI G h2 g2 x ad s2 F2 A2 D2 VV2 B2 U2 S2 T2 lv2 N2 (700 * (t0 + 1)) → V zp l ze room_1 zs zm zargs zbelow zmeth zc G 29 Q h2 (cs + 1300) (sl + 45000) 2313 [(14, .int (nI t0)), (13, .int (nI (bN s2))), (12, .int (nI (rN s2))), (11, .int (nI (oN s2))), (10, .int (nI (oS s2).length)), (9, .int (nI N2)), (8, .ref (ad 6)), (7, .ref (ad 5)), (6, .ref (ad 4)), (5, .ref (ad 3)), (4, .ref (ad 2)), (3, .ref (ad 1)), (2, .ref (ad 0)), (1, .ref x), (0, .ref sb)] []) : V zp l ze room_1 zs zm zargs zbelow zmeth zc G 29 Q h (cs) (sl) 775 [(21, .int (nI up)), (20, .int (nI q)), (19, .int (nI ts)), (18, .int (nI tm)), (17, .int (nI 8)), (16, .int y0), (15, .int x0), (14, .int (nI t0)), (13, .int (nI (bN s))), (12, .int (nI (rN s))), (11, .int (nI (oN s))), (10, .int (nI (oS s).length)), (9, .int (nI N)), (8, .ref (ad 6)), (7, .ref (ad 5)), (6, .ref (ad 4)), (5, .ref (ad 3)), (4, .ref (ad 2)), (3, .ref (ad 1)), (2, .ref (ad 0)), (1, .ref x), (0, .ref sb)] [] := by
  obtain ⟨hi, hw, lx, he, hs, hV, hd, hT, hU⟩ := id li
  have hM := he.1
  have hN6 := he.2.1
  have hK8 := hw.1
  have hR2 := hT.1
  have hB2 := hU.1
  refine v_iload C 11 rfl dL_law_775 ?_
  refine v_if_eq (tgt := 793) C dL_law_777 (by decide) (fun c1 => ?_) (fun c1 => ?_)
  · have c1 := (nk_eq (a := (oS s).length) 0 (by decide) (by omega) (by decide)).mp c1
    refine v_aload_n C 20 rfl dL_law_793 rfl ?_
    refine v_iload C 4 rfl dL_law_794 ?_
    refine v_bipush (v := 8) C dL_law_796 (by decide) ?_
    refine v_icmp_ne (tgt := 805) C dL_law_798 (by decide) (fun c2 => absurd c2 (by decide)) (fun c2 => ?_)
    refine v_iconst (v := 2) C dL_law_801 (by decide) ?_
    refine v_goto (tgt := 806) C dL_law_802 (by decide) ?_
    refine v_bipush (v := 50) C dL_law_806 (by decide) ?_
    refine v_iconst (v := 0) C dL_law_808 (by decide) ?_
    refine v_iconst (v := 0) C dL_law_809 (by decide) ?_
    refine v_callL (rest := []) C hNc (c_L_refused_share_3 l hl G x g s 50 0 0 h hi hw (c_shr2 (Or.inl (by omega)))) CL_L_151 rfl rfl (Nat.le_of_ble_eq_true rfl) ⟨Nat.le_of_ble_eq_true rfl, Nat.le_of_ble_eq_true rfl⟩ ⟨by show cs + 20 ≤ 670155; omega, by show sl + 9000 ≤ 7091004; omega⟩ dL_law_810 (fun r3 h3 w3 => ?_)
    obtain ⟨e3, rfl⟩ := w3; subst e3
    refine v_iconst (v := 3) C dL_law_813 (by decide) ?_
    refine v_icmp_eq (tgt := 2313) C dL_law_814 (by decide) (fun c4 => ?_) (fun c4 => absurd c4 (by decide))
    refine v_lvp [7, 8, 9, 10, 11, 12, 13, 14, 15, 16, 17, 18, 19, 20, 21] rfl ?_
    exact v_widen (by omega) (by omega) (next _ _ _ _ _ _ _ _ _ _ _ _ _ ⟨hi, hw, lx, li.2.2.2.mono (by omega)⟩)
  · have c1 := (nk_eq_f (a := (oS s).length) 0 (by decide) (by omega) (by decide)).mp c1
    obtain ⟨hupN, ht1⟩ := hs.top1 (by omega)
    rw [← hup (by omega)] at hupN ht1
    have hlu := he.2.2.1 up hupN
    have hlu6 := hlu.2.1
    have hlu1 := hlu.1
    refine v_aload_n C 19 rfl dL_law_780 rfl ?_
    refine v_iconst (v := 4) C dL_law_781 (by decide) ?_
    refine v_iload C 0 rfl dL_law_782 ?_
    refine v_imul C dL_law_784 (v_eqi (nI_kml up 4 (by decide)) ?_)
    refine v_iconst (v := 3) C dL_law_785 (by decide) ?_
    refine v_iadd C dL_law_786 (v_eqi (nI_adk (4 * up) 3 (by decide)) ?_)
    refine v_iald C (lx.1.1) (vpin (show 4 * up + 3 < 60 by omega) (by decide)) dL_law_787 (v_eqi (y := nI (lv up)) ((congrArg (fun j => nI (F j)) (nI_clamp (show 4 * up + 3 < 2 ^ 31 by omega))).trans (congrArg nI ((he.2.2.1 up hupN).2.2.1))) ?_)
    refine v_bipush (v := 6) C dL_law_788 (by decide) ?_
    refine v_icmp_ne (tgt := 819) C dL_law_790 (by decide) (fun c7 => ?_) (fun c7 => ?_)
    · have c7 := (nk_ne (a := (lv up)) 6 (by decide) (by omega) (by decide)).mp c7
      refine v_iload C 12 rfl dL_law_819 ?_
      refine v_bipush (v := 15) C dL_law_821 (by decide) ?_
      refine v_icmp_ne (tgt := 829) C dL_law_823 (by decide) (fun c8 => ?_) (fun c8 => ?_)
      · have c8 := (nk_ne (a := N) 15 (by decide) (by omega) (by decide)).mp c8
        refine v_iload C 6 rfl dL_law_829 ?_
        refine v_iconst (v := 5) C dL_law_831 (by decide) ?_
        refine v_ishr C dL_law_832 (v_topi (fun i9 e9 => ?_))
        refine v_bipush (v := 101) C dL_law_833 (by decide) ?_
        refine v_callS (rest := []) C (c_L_low l hl G i9 101 h (by decide) (by omega)) S_L_178 rfl rfl (Nat.le_of_ble_eq_true rfl) ⟨Nat.le_of_ble_eq_true rfl, Nat.le_of_ble_eq_true rfl⟩ ⟨by show cs + 0 ≤ 670155; omega, by show sl + 0 ≤ 7091004; omega⟩ dL_law_835 (fun i10 h10 q10 => ?_)
        obtain ⟨e10, rfl⟩ := q10
        obtain ⟨u10, hu10, eu10⟩ : ∃ u, u < 101 ∧ lw i9 101 = u := ⟨_, lw_lt (by decide), rfl⟩
        rw [eu10] at e10; subst e10
        refine v_istore C [(22, .int (nI u10)), (21, .int (nI up)), (20, .int (nI q)), (19, .int (nI ts)), (18, .int (nI tm)), (17, .int (nI 8)), (16, .int y0), (15, .int x0), (14, .int (nI t0)), (13, .int (nI (bN s))), (12, .int (nI (rN s))), (11, .int (nI (oN s))), (10, .int (nI (oS s).length)), (9, .int (nI N)), (8, .ref (ad 6)), (7, .ref (ad 5)), (6, .ref (ad 4)), (5, .ref (ad 3)), (4, .ref (ad 2)), (3, .ref (ad 1)), (2, .ref (ad 0)), (1, .ref x), (0, .ref sb)] rfl (by decide) dL_law_838 ?_
        refine v_aload_n C 20 rfl dL_law_840 rfl ?_
        refine v_iconst (v := 4) C dL_law_841 (by decide) ?_
        refine v_iload C 13 rfl dL_law_842 ?_
        refine v_imul C dL_law_844 (v_eqi (nI_kml N 4 (by decide)) ?_)
        refine v_iload C 5 rfl dL_law_845 ?_
        refine v_iconst (v := 1) C dL_law_847 (by decide) ?_
        refine v_isub C dL_law_848 (v_eqi (y := (nI 7)) (by decide) ?_)
        refine v_iast C (lx.1.1) (vpin (show 4 * N < 60 by omega) (by decide)) dL_law_849 (v_nw (fun h13 eh13 => ?_))
        have lw13 := lx.p0 (i := 4 * N) (v := 7) (by omega) eh13
        have xi13 := lx.xi hi (i := 0) (by decide) eh13
        refine v_aload_n C 20 rfl dL_law_850 rfl ?_
        refine v_iconst (v := 4) C dL_law_851 (by decide) ?_
        refine v_iload C 13 rfl dL_law_852 ?_
        refine v_imul C dL_law_854 (v_eqi (nI_kml N 4 (by decide)) ?_)
        refine v_iconst (v := 1) C dL_law_855 (by decide) ?_
        refine v_iadd C dL_law_856 (v_eqi (nI_adk (4 * N) 1 (by decide)) ?_)
        refine v_iload C 1 rfl dL_law_857 ?_
        refine v_iast C (lw13.1.1) (vpin (show 4 * N + 1 < 60 by omega) (by decide)) dL_law_859 (v_nw (fun h16 eh16 => ?_))
        have lw16 := lw13.p0 (i := 4 * N + 1) (v := up) (by omega) eh16
        have xi16 := lw13.xi xi13 (i := 0) (by decide) eh16
        refine v_aload_n C 20 rfl dL_law_860 rfl ?_
        refine v_iconst (v := 4) C dL_law_861 (by decide) ?_
        refine v_iload C 13 rfl dL_law_862 ?_
        refine v_imul C dL_law_864 (v_eqi (nI_kml N 4 (by decide)) ?_)
        refine v_iconst (v := 2) C dL_law_865 (by decide) ?_
        refine v_iadd C dL_law_866 (v_eqi (nI_adk (4 * N) 2 (by decide)) ?_)
        refine v_iload C 0 rfl dL_law_867 ?_
        refine v_iast C (lw16.1.1) (vpin (show 4 * N + 2 < 60 by omega) (by decide)) dL_law_869 (v_nw (fun h19 eh19 => ?_))
        have lw19 := lw16.p0 (i := 4 * N + 2) (v := u10) (by omega) eh19
        have xi19 := lw16.xi xi16 (i := 0) (by decide) eh19
        refine v_aload_n C 20 rfl dL_law_870 rfl ?_
        refine v_iconst (v := 4) C dL_law_871 (by decide) ?_
        refine v_iload C 13 rfl dL_law_872 ?_
        refine v_imul C dL_law_874 (v_eqi (nI_kml N 4 (by decide)) ?_)
        refine v_iconst (v := 3) C dL_law_875 (by decide) ?_
        refine v_iadd C dL_law_876 (v_eqi (nI_adk (4 * N) 3 (by decide)) ?_)
        refine v_aload_n C 20 rfl dL_law_877 rfl ?_
        refine v_iconst (v := 4) C dL_law_878 (by decide) ?_
        refine v_iload C 1 rfl dL_law_879 ?_
        refine v_imul C dL_law_881 (v_eqi (nI_kml up 4 (by decide)) ?_)
        refine v_iconst (v := 3) C dL_law_882 (by decide) ?_
        refine v_iadd C dL_law_883 (v_eqi (nI_adk (4 * up) 3 (by decide)) ?_)
        refine v_iald C (lw19.1.1) (vpin (show 4 * up + 3 < 60 by omega) (by decide)) dL_law_884 (v_eqi (y := nI (lv up)) ((congrArg (fun j => nI ((upN (upN (upN F (4 * N) 7) (4 * N + 1) up) (4 * N + 2) u10) j)) (nI_clamp (show 4 * up + 3 < 2 ^ 31 by omega))).trans (congrArg nI ((upN_n (by omega)).trans ((upN_n (by omega)).trans ((upN_n (by omega)).trans ((he.2.2.1 up hupN).2.2.1)))))) ?_)
        refine v_iconst (v := 1) C dL_law_885 (by decide) ?_
        refine v_iadd C dL_law_886 (v_eqi (nI_adk (lv up) 1 (by decide)) ?_)
        refine v_iast C (lw19.1.1) (vpin (show 4 * N + 3 < 60 by omega) (by decide)) dL_law_887 (v_nw (fun h25 eh25 => ?_))
        have lw25 := lw19.p0 (i := 4 * N + 3) (v := lv up + 1) (by omega) eh25
        have xi25 := lw19.xi xi19 (i := 0) (by decide) eh25
        refine v_aload C 14 rfl dL_law_888 ?_
        refine v_iload C 12 rfl dL_law_890 ?_
        refine v_iconst (v := 1) C dL_law_892 (by decide) ?_
        refine v_isub C dL_law_893 (v_eqi (nI_sbk (a := (oS s).length) 1 (by decide) (by omega)) ?_)
        refine v_iload C 13 rfl dL_law_894 ?_
        refine v_iast C (lw25.1.2.2.2.2.2.2) (vpin (show (oS s).length - 1 < 8 by omega) (by decide)) dL_law_896 (v_nw (fun h27 eh27 => ?_))
        have lw27 := lw25.p6 (i := (oS s).length - 1) (v := N) (by omega) eh27
        have xi27 := lw25.xi xi25 (i := 6) (by decide) eh27
        refine v_iinc C 13 [(9, .int (nI (N + 1))), (22, .int (nI u10)), (21, .int (nI up)), (20, .int (nI q)), (19, .int (nI ts)), (18, .int (nI tm)), (17, .int (nI 8)), (16, .int y0), (15, .int x0), (14, .int (nI t0)), (13, .int (nI (bN s))), (12, .int (nI (rN s))), (11, .int (nI (oN s))), (10, .int (nI (oS s).length)), (8, .ref (ad 6)), (7, .ref (ad 5)), (6, .ref (ad 4)), (5, .ref (ad 3)), (4, .ref (ad 2)), (3, .ref (ad 1)), (2, .ref (ad 0)), (1, .ref x), (0, .ref sb)] rfl (nI_inc N 1 (by decide)) rfl (by decide) dL_law_897 ?_
        refine v_iload C 6 rfl dL_law_900 ?_
        refine v_bipush (v := 8) C dL_law_902 (by decide) ?_
        refine v_icmp_ne (tgt := 916) C dL_law_904 (by decide) (fun c29 => absurd c29 (by decide)) (fun c29 => ?_)
        refine v_aload_n C 21 rfl dL_law_907 rfl ?_
        refine v_iload C 1 rfl dL_law_908 ?_
        refine v_callVX (rest := []) C (c_X4_share l hl G x g s (nI u10) h27 xi27 hw) K_L_98 xi27.1.1.1 rfl rfl (Nat.le_of_ble_eq_true rfl) ⟨Nat.le_of_ble_eq_true rfl, Nat.le_of_ble_eq_true rfl⟩ ⟨by show cs + 0 + 20 ≤ 670155; omega, by show sl + 0 + 9000 ≤ 7091004; omega⟩ dL_law_910 (fun r30 h30 w30 => ?_) (fun E30 h30 w30 => ?_)
        · obtain ⟨-, er30, g30, xi30, fz30⟩ := w30
          have lw30 := lw27.fr fz30
          have fr30 := fz30
          replace er30 := er30.trans (by rw [ht1])
          subst er30
          have P0 : (upN (upN (upN (upN F (4 * N) 7) (4 * N + 1) up) (4 * N + 2) u10) (4 * N + 3) (lv up + 1)) (4 * N) = 7 := ((upN_n (by omega)).trans ((upN_n (by omega)).trans ((upN_n (by omega)).trans (upN_s))))
          have P1 : (upN (upN (upN (upN F (4 * N) 7) (4 * N + 1) up) (4 * N + 2) u10) (4 * N + 3) (lv up + 1)) (4 * N + 1) = up := ((upN_n (by omega)).trans ((upN_n (by omega)).trans (upN_s)))
          have P2 : (upN (upN (upN (upN F (4 * N) 7) (4 * N + 1) up) (4 * N + 2) u10) (4 * N + 3) (lv up + 1)) (4 * N + 2) = u10 := ((upN_n (by omega)).trans (upN_s))
          have P3 : (upN (upN (upN (upN F (4 * N) 7) (4 * N + 1) up) (4 * N + 2) u10) (4 * N + 3) (lv up + 1)) (4 * N + 3) = lv up + 1 := (upN_s)
          have f2 : (top1 s).2 = lv up := by rw [ht1]
          refine v_goto (tgt := 920) C dL_law_913 (by decide) ?_
          refine v_aload_n C 20 rfl dL_law_920 rfl ?_
          refine v_iconst (v := 4) C dL_law_921 (by decide) ?_
          refine v_iload C 0 rfl dL_law_922 ?_
          refine v_imul C dL_law_924 (v_eqi (nI_kml (N + 1) 4 (by decide)) ?_)
          refine v_iconst (v := 1) C dL_law_925 (by decide) ?_
          refine v_isub C dL_law_926 (v_eqi (y := (nI (4 * N + 3))) ((nI_sbk (a := 4 * (N + 1)) 1 (by decide) (by omega)).trans (congrArg nI (show 4 * (N + 1) - 1 = 4 * N + 3 by omega))) ?_)
          refine v_iald C (lw30.1.1) (vpin (show 4 * N + 3 < 60 by omega) (by decide)) dL_law_927 (v_eqi (y := nI (lv up + 1)) ((congrArg (fun j => nI ((upN (upN (upN (upN F (4 * N) 7) (4 * N + 1) up) (4 * N + 2) u10) (4 * N + 3) (lv up + 1)) j)) (nI_clamp (show 4 * N + 3 < 2 ^ 31 by omega))).trans (congrArg nI (upN_s))) ?_)
          refine v_icmp_eq (tgt := 933) C dL_law_928 (by decide) (fun c33 => ?_) (fun c33 => absurd rfl c33)
          refine v_goto (tgt := 2268) C dL_law_933 (by decide) ?_
          have hlen : (oS (nShare s (nI u10))).length = (oS s).length := (by show ((oS s).dropLast ++ [_]).length = _; rw [List.length_append, List.length_dropLast]; show _ + 1 = _; omega)
          refine v_lvp (lv2 := [(20, .int (nI q)), (16, .int y0), (14, .int (nI t0)), (13, .int (nI (bN (nShare s (nI u10))))), (12, .int (nI (rN (nShare s (nI u10))))), (11, .int (nI (oN (nShare s (nI u10))))), (10, .int (nI (oS (nShare s (nI u10))).length)), (9, .int (nI (N + 1))), (8, .ref (ad 6)), (7, .ref (ad 5)), (6, .ref (ad 4)), (5, .ref (ad 3)), (4, .ref (ad 2)), (3, .ref (ad 1)), (2, .ref (ad 0)), (1, .ref x), (0, .ref sb)]) [3, 7, 9, 10, 11, 12, 13, 0, 14, 15, 16, 17, 18, 19, 20, 21, 22] (by rw [hlen]; rfl) ?_
          exact v_widen (by omega) (by omega) (chk _ _ _ _ _ _ _ _ _ _ _ _ _ ⟨xi30, (wf_share hw (c_shr (show u10 ≤ 100 by omega) (by omega) (by rw [ht1]; exact c7))), lw30, (rs_new (F2 := (upN (upN (upN (upN F (4 * N) 7) (4 * N + 1) up) (4 * N + 2) u10) (4 * N + 3) (lv up + 1))) (m := ((oS s).length - 1)) (f := ((top1 s).1 ++ [(7, cl (nI u10))], (top1 s).2 + 1)) li.2.2.2 (by omega) (by omega) (show (oS s).dropLast ++ [((top1 s).1 ++ [(7, cl (nI u10))], (top1 s).2 + 1)] = _ by rw [dl_take]) (fun j hj => (upN_n (by omega)).trans ((upN_n (by omega)).trans ((upN_n (by omega)).trans ((upN_n (by omega)).trans (rfl))))) (fe_new (F2 := (upN (upN (upN (upN F (4 * N) 7) (4 * N + 1) up) (4 * N + 2) u10) (4 * N + 3) (lv up + 1))) (f := ((top1 s).1 ++ [(7, cl (nI u10))], (top1 s).2 + 1)) (Nat.le_add_left _ _) (by show (top1 s).2 + 1 ≤ 6; rw [f2]; omega) (P3.trans (by show _ = (top1 s).2 + 1; rw [f2])) (Or.inr (Or.inr (Or.inr (Or.inr (Or.inl ⟨P0, by rw [P1]; omega, by rw [P2]; omega, by show (top1 s).1 ++ [(7, cl (nI u10))] = _; rw [P1, P2, ht1, cl_nI (show u10 < 2 ^ 31 by omega)], by show (top1 s).2 + 1 = _; rw [P1, f2]⟩))))))).mono (by omega)⟩)
        · obtain ⟨-, w30⟩ := w30
          rcases w30 with ⟨ek, -⟩ | ⟨ek, -⟩
          · exact absurd ((c_shr (show u10 ≤ 100 by omega) (by omega) (by rw [ht1]; exact c7)).symm.trans ek) (by decide)
          · exact absurd ((c_shr (show u10 ≤ 100 by omega) (by omega) (by rw [ht1]; exact c7)).symm.trans ek) (by decide)
      · have c8 := (nk_ne_f (a := N) 15 (by decide) (by omega) (by decide)).mp c8
        refine v_goto (tgt := 2313) C dL_law_826 (by decide) ?_
        refine v_lvp [7, 8, 9, 10, 11, 12, 13, 14, 15, 16, 17, 18, 19, 20, 21] rfl ?_
        exact v_widen (by omega) (by omega) (next _ _ _ _ _ _ _ _ _ _ _ _ _ ⟨hi, hw, lx, li.2.2.2.mono (by omega)⟩)
    · have c7 := (nk_ne_f (a := (lv up)) 6 (by decide) (by omega) (by decide)).mp c7
      refine v_aload_n C 20 rfl dL_law_793 rfl ?_
      refine v_iload C 4 rfl dL_law_794 ?_
      refine v_bipush (v := 8) C dL_law_796 (by decide) ?_
      refine v_icmp_ne (tgt := 805) C dL_law_798 (by decide) (fun c34 => absurd c34 (by decide)) (fun c34 => ?_)
      refine v_iconst (v := 2) C dL_law_801 (by decide) ?_
      refine v_goto (tgt := 806) C dL_law_802 (by decide) ?_
      refine v_bipush (v := 50) C dL_law_806 (by decide) ?_
      refine v_iconst (v := 0) C dL_law_808 (by decide) ?_
      refine v_iconst (v := 0) C dL_law_809 (by decide) ?_
      refine v_callL (rest := []) C hNc (c_L_refused_share_3 l hl G x g s 50 0 0 h hi hw (c_shr2 (Or.inr (by rw [ht1]; exact c7)))) CL_L_151 rfl rfl (Nat.le_of_ble_eq_true rfl) ⟨Nat.le_of_ble_eq_true rfl, Nat.le_of_ble_eq_true rfl⟩ ⟨by show cs + 20 ≤ 670155; omega, by show sl + 9000 ≤ 7091004; omega⟩ dL_law_810 (fun r35 h35 w35 => ?_)
      obtain ⟨e35, rfl⟩ := w35; subst e35
      refine v_iconst (v := 3) C dL_law_813 (by decide) ?_
      refine v_icmp_eq (tgt := 2313) C dL_law_814 (by decide) (fun c36 => ?_) (fun c36 => absurd c36 (by decide))
      refine v_lvp [7, 8, 9, 10, 11, 12, 13, 14, 15, 16, 17, 18, 19, 20, 21] rfl ?_
      exact v_widen (by omega) (by omega) (next _ _ _ _ _ _ _ _ _ _ _ _ _ ⟨hi, hw, lx, li.2.2.2.mono (by omega)⟩)
set_option maxHeartbeats 8000000 in
set_option maxRecDepth 100000 in
theorem law_year {zp : Program} {l : Launch} {ze : Env} {zs : State} {zm : MethodId} {zargs : Array Value} {zbelow : List Frame} {zmeth : Method} {zc : Code} {G : zG} (hl : l.stackTraces = false) (C : zOK zp l ze room_1 zs zm zargs zbelow zmeth zc G cL_law 29 RL) (hNc : zNc zs) {Q : State → Prop} {sb t0 : Nat} {h : zH} {g : XGh} {x : Nat} {ad : Nat → Nat} {s : ZS} {F : Nat → Nat} {A D : Nat → Int32} {VV : Nat → Nat} {B U : Nat → Int32} {S : Nat → Nat} {T : Nat → List Tok} {lv : Nat → Nat} {N : Nat} (cs sl : Nat) (hcs : cs + 1300 ≤ 670155) (hsl : sl + 45000 ≤ 7091004) (q tm ts up : Nat) (x0 y0 : Int32)  (li : LI G h g x ad s F A D VV B U S T lv N (700 * t0)) (ht0 : t0 < 60) (hq : q < 9) (htm : tm < oN s ∨ (oN s = 0 ∧ tm = 0)) (hts : ts < rN s ∨ (rN s = 0 ∧ ts = 0)) (hup : 0 < (oS s).length → up = S ((oS s).length - 1))  (chk : ∀ (h2 : zH) (g2 : XGh) (s2 : ZS) (F2 : Nat → Nat) (A2 D2 : Nat → Int32) (VV2 : Nat → Nat) (B2 U2 : Nat → Int32) (S2 : Nat → Nat) (T2 : Nat → List Tok) (lv2 : Nat → Nat) (N2 : Nat), LI G h2 g2 x ad s2 F2 A2 D2 VV2 B2 U2 S2 T2 lv2 N2 (700 * (t0 + 1)) → V zp l ze room_1 zs zm zargs zbelow zmeth zc G 29 Q h2 (cs + 200) (sl + 20000) 2268 [(20, .int (nI q)), (16, .int y0), (14, .int (nI t0)), (13, .int (nI (bN s2))), (12, .int (nI (rN s2))), (11, .int (nI (oN s2))), (10, .int (nI (oS s2).length)), (9, .int (nI N2)), (8, .ref (ad 6)), (7, .ref (ad 5)), (6, .ref (ad 4)), (5, .ref (ad 3)), (4, .ref (ad 2)), (3, .ref (ad 1)), (2, .ref (ad 0)), (1, .ref x), (0, .ref sb)] []) (next : ∀ (h2 : zH) (g2 : XGh) (s2 : ZS) (F2 : Nat → Nat) (A2 D2 : Nat → Int32) (VV2 : Nat → Nat) (B2 U2 : Nat → Int32) (S2 : Nat → Nat) (T2 : Nat → List Tok) (lv2 : Nat → Nat) (N2 : Nat), LI G h2 g2 x ad s2 F2 A2 D2 VV2 B2 U2 S2 T2 lv2 N2 (700 * (t0 + 1)) → V zp l ze room_1 zs zm zargs zbelow zmeth zc G 29 Q h2 (cs + 1300) (sl + 45000) 2313 [(14, .int (nI t0)), (13, .int (nI (bN s2))), (12, .int (nI (rN s2))), (11, .int (nI (oN s2))), (10, .int (nI (oS s2).length)), (9, .int (nI N2)), (8, .ref (ad 6)), (7, .ref (ad 5)), (6, .ref (ad 4)), (5, .ref (ad 3)), (4, .ref (ad 2)), (3, .ref (ad 1)), (2, .ref (ad 0)), (1, .ref x), (0, .ref sb)] []) : V zp l ze room_1 zs zm zargs zbelow zmeth zc G 29 Q h (cs) (sl) 775 [(21, .int (nI up)), (20, .int (nI q)), (19, .int (nI ts)), (18, .int (nI tm)), (17, .int (nI 9)), (16, .int y0), (15, .int x0), (14, .int (nI t0)), (13, .int (nI (bN s))), (12, .int (nI (rN s))), (11, .int (nI (oN s))), (10, .int (nI (oS s).length)), (9, .int (nI N)), (8, .ref (ad 6)), (7, .ref (ad 5)), (6, .ref (ad 4)), (5, .ref (ad 3)), (4, .ref (ad 2)), (3, .ref (ad 1)), (2, .ref (ad 0)), (1, .ref x), (0, .ref sb)] [] := by
  obtain ⟨hi, hw, lx, he, hs, hV, hd, hT, hU⟩ := id li
  have hM := he.1
  have hN6 := he.2.1
  have hK8 := hw.1
  have hR2 := hT.1
  have hB2 := hU.1
  refine v_iload C 11 rfl dL_law_775 ?_
  refine v_if_eq (tgt := 793) C dL_law_777 (by decide) (fun c1 => ?_) (fun c1 => ?_)
  · have c1 := (nk_eq (a := (oS s).length) 0 (by decide) (by omega) (by decide)).mp c1
    refine v_aload_n C 20 rfl dL_law_793 rfl ?_
    refine v_iload C 4 rfl dL_law_794 ?_
    refine v_bipush (v := 8) C dL_law_796 (by decide) ?_
    refine v_icmp_ne (tgt := 805) C dL_law_798 (by decide) (fun c2 => ?_) (fun c2 => absurd c2 (by decide))
    refine v_iconst (v := 3) C dL_law_805 (by decide) ?_
    refine v_bipush (v := 50) C dL_law_806 (by decide) ?_
    refine v_iconst (v := 0) C dL_law_808 (by decide) ?_
    refine v_iconst (v := 0) C dL_law_809 (by decide) ?_
    refine v_callL (rest := []) C hNc (c_L_refused_year_3 l hl G x g s 50 0 0 h hi hw (c_yr1 (Or.inl (by omega)))) CL_L_151 rfl rfl (Nat.le_of_ble_eq_true rfl) ⟨Nat.le_of_ble_eq_true rfl, Nat.le_of_ble_eq_true rfl⟩ ⟨by show cs + 20 ≤ 670155; omega, by show sl + 9000 ≤ 7091004; omega⟩ dL_law_810 (fun r3 h3 w3 => ?_)
    obtain ⟨e3, rfl⟩ := w3; subst e3
    refine v_iconst (v := 3) C dL_law_813 (by decide) ?_
    refine v_icmp_eq (tgt := 2313) C dL_law_814 (by decide) (fun c4 => ?_) (fun c4 => absurd c4 (by decide))
    refine v_lvp [7, 8, 9, 10, 11, 12, 13, 14, 15, 16, 17, 18, 19, 20, 21] rfl ?_
    exact v_widen (by omega) (by omega) (next _ _ _ _ _ _ _ _ _ _ _ _ _ ⟨hi, hw, lx, li.2.2.2.mono (by omega)⟩)
  · have c1 := (nk_eq_f (a := (oS s).length) 0 (by decide) (by omega) (by decide)).mp c1
    obtain ⟨hupN, ht1⟩ := hs.top1 (by omega)
    rw [← hup (by omega)] at hupN ht1
    have hlu := he.2.2.1 up hupN
    have hlu6 := hlu.2.1
    have hlu1 := hlu.1
    refine v_aload_n C 19 rfl dL_law_780 rfl ?_
    refine v_iconst (v := 4) C dL_law_781 (by decide) ?_
    refine v_iload C 0 rfl dL_law_782 ?_
    refine v_imul C dL_law_784 (v_eqi (nI_kml up 4 (by decide)) ?_)
    refine v_iconst (v := 3) C dL_law_785 (by decide) ?_
    refine v_iadd C dL_law_786 (v_eqi (nI_adk (4 * up) 3 (by decide)) ?_)
    refine v_iald C (lx.1.1) (vpin (show 4 * up + 3 < 60 by omega) (by decide)) dL_law_787 (v_eqi (y := nI (lv up)) ((congrArg (fun j => nI (F j)) (nI_clamp (show 4 * up + 3 < 2 ^ 31 by omega))).trans (congrArg nI ((he.2.2.1 up hupN).2.2.1))) ?_)
    refine v_bipush (v := 6) C dL_law_788 (by decide) ?_
    refine v_icmp_ne (tgt := 819) C dL_law_790 (by decide) (fun c7 => ?_) (fun c7 => ?_)
    · have c7 := (nk_ne (a := (lv up)) 6 (by decide) (by omega) (by decide)).mp c7
      refine v_iload C 12 rfl dL_law_819 ?_
      refine v_bipush (v := 15) C dL_law_821 (by decide) ?_
      refine v_icmp_ne (tgt := 829) C dL_law_823 (by decide) (fun c8 => ?_) (fun c8 => ?_)
      · have c8 := (nk_ne (a := N) 15 (by decide) (by omega) (by decide)).mp c8
        refine v_iload C 6 rfl dL_law_829 ?_
        refine v_iconst (v := 5) C dL_law_831 (by decide) ?_
        refine v_ishr C dL_law_832 (v_topi (fun i9 e9 => ?_))
        refine v_bipush (v := 101) C dL_law_833 (by decide) ?_
        refine v_callS (rest := []) C (c_L_low l hl G i9 101 h (by decide) (by omega)) S_L_178 rfl rfl (Nat.le_of_ble_eq_true rfl) ⟨Nat.le_of_ble_eq_true rfl, Nat.le_of_ble_eq_true rfl⟩ ⟨by show cs + 0 ≤ 670155; omega, by show sl + 0 ≤ 7091004; omega⟩ dL_law_835 (fun i10 h10 q10 => ?_)
        obtain ⟨e10, rfl⟩ := q10
        obtain ⟨u10, hu10, eu10⟩ : ∃ u, u < 101 ∧ lw i9 101 = u := ⟨_, lw_lt (by decide), rfl⟩
        rw [eu10] at e10; subst e10
        refine v_istore C [(22, .int (nI u10)), (21, .int (nI up)), (20, .int (nI q)), (19, .int (nI ts)), (18, .int (nI tm)), (17, .int (nI 9)), (16, .int y0), (15, .int x0), (14, .int (nI t0)), (13, .int (nI (bN s))), (12, .int (nI (rN s))), (11, .int (nI (oN s))), (10, .int (nI (oS s).length)), (9, .int (nI N)), (8, .ref (ad 6)), (7, .ref (ad 5)), (6, .ref (ad 4)), (5, .ref (ad 3)), (4, .ref (ad 2)), (3, .ref (ad 1)), (2, .ref (ad 0)), (1, .ref x), (0, .ref sb)] rfl (by decide) dL_law_838 ?_
        refine v_aload_n C 20 rfl dL_law_840 rfl ?_
        refine v_iconst (v := 4) C dL_law_841 (by decide) ?_
        refine v_iload C 13 rfl dL_law_842 ?_
        refine v_imul C dL_law_844 (v_eqi (nI_kml N 4 (by decide)) ?_)
        refine v_iload C 5 rfl dL_law_845 ?_
        refine v_iconst (v := 1) C dL_law_847 (by decide) ?_
        refine v_isub C dL_law_848 (v_eqi (y := (nI 8)) (by decide) ?_)
        refine v_iast C (lx.1.1) (vpin (show 4 * N < 60 by omega) (by decide)) dL_law_849 (v_nw (fun h13 eh13 => ?_))
        have lw13 := lx.p0 (i := 4 * N) (v := 8) (by omega) eh13
        have xi13 := lx.xi hi (i := 0) (by decide) eh13
        refine v_aload_n C 20 rfl dL_law_850 rfl ?_
        refine v_iconst (v := 4) C dL_law_851 (by decide) ?_
        refine v_iload C 13 rfl dL_law_852 ?_
        refine v_imul C dL_law_854 (v_eqi (nI_kml N 4 (by decide)) ?_)
        refine v_iconst (v := 1) C dL_law_855 (by decide) ?_
        refine v_iadd C dL_law_856 (v_eqi (nI_adk (4 * N) 1 (by decide)) ?_)
        refine v_iload C 1 rfl dL_law_857 ?_
        refine v_iast C (lw13.1.1) (vpin (show 4 * N + 1 < 60 by omega) (by decide)) dL_law_859 (v_nw (fun h16 eh16 => ?_))
        have lw16 := lw13.p0 (i := 4 * N + 1) (v := up) (by omega) eh16
        have xi16 := lw13.xi xi13 (i := 0) (by decide) eh16
        refine v_aload_n C 20 rfl dL_law_860 rfl ?_
        refine v_iconst (v := 4) C dL_law_861 (by decide) ?_
        refine v_iload C 13 rfl dL_law_862 ?_
        refine v_imul C dL_law_864 (v_eqi (nI_kml N 4 (by decide)) ?_)
        refine v_iconst (v := 2) C dL_law_865 (by decide) ?_
        refine v_iadd C dL_law_866 (v_eqi (nI_adk (4 * N) 2 (by decide)) ?_)
        refine v_iload C 0 rfl dL_law_867 ?_
        refine v_iast C (lw16.1.1) (vpin (show 4 * N + 2 < 60 by omega) (by decide)) dL_law_869 (v_nw (fun h19 eh19 => ?_))
        have lw19 := lw16.p0 (i := 4 * N + 2) (v := u10) (by omega) eh19
        have xi19 := lw16.xi xi16 (i := 0) (by decide) eh19
        refine v_aload_n C 20 rfl dL_law_870 rfl ?_
        refine v_iconst (v := 4) C dL_law_871 (by decide) ?_
        refine v_iload C 13 rfl dL_law_872 ?_
        refine v_imul C dL_law_874 (v_eqi (nI_kml N 4 (by decide)) ?_)
        refine v_iconst (v := 3) C dL_law_875 (by decide) ?_
        refine v_iadd C dL_law_876 (v_eqi (nI_adk (4 * N) 3 (by decide)) ?_)
        refine v_aload_n C 20 rfl dL_law_877 rfl ?_
        refine v_iconst (v := 4) C dL_law_878 (by decide) ?_
        refine v_iload C 1 rfl dL_law_879 ?_
        refine v_imul C dL_law_881 (v_eqi (nI_kml up 4 (by decide)) ?_)
        refine v_iconst (v := 3) C dL_law_882 (by decide) ?_
        refine v_iadd C dL_law_883 (v_eqi (nI_adk (4 * up) 3 (by decide)) ?_)
        refine v_iald C (lw19.1.1) (vpin (show 4 * up + 3 < 60 by omega) (by decide)) dL_law_884 (v_eqi (y := nI (lv up)) ((congrArg (fun j => nI ((upN (upN (upN F (4 * N) 8) (4 * N + 1) up) (4 * N + 2) u10) j)) (nI_clamp (show 4 * up + 3 < 2 ^ 31 by omega))).trans (congrArg nI ((upN_n (by omega)).trans ((upN_n (by omega)).trans ((upN_n (by omega)).trans ((he.2.2.1 up hupN).2.2.1)))))) ?_)
        refine v_iconst (v := 1) C dL_law_885 (by decide) ?_
        refine v_iadd C dL_law_886 (v_eqi (nI_adk (lv up) 1 (by decide)) ?_)
        refine v_iast C (lw19.1.1) (vpin (show 4 * N + 3 < 60 by omega) (by decide)) dL_law_887 (v_nw (fun h25 eh25 => ?_))
        have lw25 := lw19.p0 (i := 4 * N + 3) (v := lv up + 1) (by omega) eh25
        have xi25 := lw19.xi xi19 (i := 0) (by decide) eh25
        refine v_aload C 14 rfl dL_law_888 ?_
        refine v_iload C 12 rfl dL_law_890 ?_
        refine v_iconst (v := 1) C dL_law_892 (by decide) ?_
        refine v_isub C dL_law_893 (v_eqi (nI_sbk (a := (oS s).length) 1 (by decide) (by omega)) ?_)
        refine v_iload C 13 rfl dL_law_894 ?_
        refine v_iast C (lw25.1.2.2.2.2.2.2) (vpin (show (oS s).length - 1 < 8 by omega) (by decide)) dL_law_896 (v_nw (fun h27 eh27 => ?_))
        have lw27 := lw25.p6 (i := (oS s).length - 1) (v := N) (by omega) eh27
        have xi27 := lw25.xi xi25 (i := 6) (by decide) eh27
        refine v_iinc C 13 [(9, .int (nI (N + 1))), (22, .int (nI u10)), (21, .int (nI up)), (20, .int (nI q)), (19, .int (nI ts)), (18, .int (nI tm)), (17, .int (nI 9)), (16, .int y0), (15, .int x0), (14, .int (nI t0)), (13, .int (nI (bN s))), (12, .int (nI (rN s))), (11, .int (nI (oN s))), (10, .int (nI (oS s).length)), (8, .ref (ad 6)), (7, .ref (ad 5)), (6, .ref (ad 4)), (5, .ref (ad 3)), (4, .ref (ad 2)), (3, .ref (ad 1)), (2, .ref (ad 0)), (1, .ref x), (0, .ref sb)] rfl (nI_inc N 1 (by decide)) rfl (by decide) dL_law_897 ?_
        refine v_iload C 6 rfl dL_law_900 ?_
        refine v_bipush (v := 8) C dL_law_902 (by decide) ?_
        refine v_icmp_ne (tgt := 916) C dL_law_904 (by decide) (fun c29 => ?_) (fun c29 => absurd c29 (by decide))
        refine v_aload_n C 21 rfl dL_law_916 rfl ?_
        refine v_callVX (rest := []) C (c_X4_year l hl G x g s h27 xi27 hw) K_L_101 xi27.1.1.1 rfl rfl (Nat.le_of_ble_eq_true rfl) ⟨Nat.le_of_ble_eq_true rfl, Nat.le_of_ble_eq_true rfl⟩ ⟨by show cs + 0 + 20 ≤ 670155; omega, by show sl + 0 + 9000 ≤ 7091004; omega⟩ dL_law_917 (fun r30 h30 w30 => ?_) (fun E30 h30 w30 => ?_)
        · obtain ⟨-, er30, g30, xi30, fz30⟩ := w30
          have lw30 := lw27.fr fz30
          have fr30 := fz30
          replace er30 := er30.trans (by rw [ht1])
          subst er30
          have P0 : (upN (upN (upN (upN F (4 * N) 8) (4 * N + 1) up) (4 * N + 2) u10) (4 * N + 3) (lv up + 1)) (4 * N) = 8 := ((upN_n (by omega)).trans ((upN_n (by omega)).trans ((upN_n (by omega)).trans (upN_s))))
          have P1 : (upN (upN (upN (upN F (4 * N) 8) (4 * N + 1) up) (4 * N + 2) u10) (4 * N + 3) (lv up + 1)) (4 * N + 1) = up := ((upN_n (by omega)).trans ((upN_n (by omega)).trans (upN_s)))
          have P2 : (upN (upN (upN (upN F (4 * N) 8) (4 * N + 1) up) (4 * N + 2) u10) (4 * N + 3) (lv up + 1)) (4 * N + 2) = u10 := ((upN_n (by omega)).trans (upN_s))
          have P3 : (upN (upN (upN (upN F (4 * N) 8) (4 * N + 1) up) (4 * N + 2) u10) (4 * N + 3) (lv up + 1)) (4 * N + 3) = lv up + 1 := (upN_s)
          have f2 : (top1 s).2 = lv up := by rw [ht1]
          refine v_aload_n C 20 rfl dL_law_920 rfl ?_
          refine v_iconst (v := 4) C dL_law_921 (by decide) ?_
          refine v_iload C 0 rfl dL_law_922 ?_
          refine v_imul C dL_law_924 (v_eqi (nI_kml (N + 1) 4 (by decide)) ?_)
          refine v_iconst (v := 1) C dL_law_925 (by decide) ?_
          refine v_isub C dL_law_926 (v_eqi (y := (nI (4 * N + 3))) ((nI_sbk (a := 4 * (N + 1)) 1 (by decide) (by omega)).trans (congrArg nI (show 4 * (N + 1) - 1 = 4 * N + 3 by omega))) ?_)
          refine v_iald C (lw30.1.1) (vpin (show 4 * N + 3 < 60 by omega) (by decide)) dL_law_927 (v_eqi (y := nI (lv up + 1)) ((congrArg (fun j => nI ((upN (upN (upN (upN F (4 * N) 8) (4 * N + 1) up) (4 * N + 2) u10) (4 * N + 3) (lv up + 1)) j)) (nI_clamp (show 4 * N + 3 < 2 ^ 31 by omega))).trans (congrArg nI (upN_s))) ?_)
          refine v_icmp_eq (tgt := 933) C dL_law_928 (by decide) (fun c33 => ?_) (fun c33 => absurd rfl c33)
          refine v_goto (tgt := 2268) C dL_law_933 (by decide) ?_
          have hlen : (oS (nYear s)).length = (oS s).length := (by show ((oS s).dropLast ++ [_]).length = _; rw [List.length_append, List.length_dropLast]; show _ + 1 = _; omega)
          refine v_lvp (lv2 := [(20, .int (nI q)), (16, .int y0), (14, .int (nI t0)), (13, .int (nI (bN (nYear s)))), (12, .int (nI (rN (nYear s)))), (11, .int (nI (oN (nYear s)))), (10, .int (nI (oS (nYear s)).length)), (9, .int (nI (N + 1))), (8, .ref (ad 6)), (7, .ref (ad 5)), (6, .ref (ad 4)), (5, .ref (ad 3)), (4, .ref (ad 2)), (3, .ref (ad 1)), (2, .ref (ad 0)), (1, .ref x), (0, .ref sb)]) [3, 7, 9, 10, 11, 12, 13, 0, 14, 15, 16, 17, 18, 19, 20, 21, 22] (by rw [hlen]; rfl) ?_
          exact v_widen (by omega) (by omega) (chk _ _ _ _ _ _ _ _ _ _ _ _ _ ⟨xi30, (wf_year hw (c_yr (by omega) (by rw [ht1]; exact c7))), lw30, (rs_new (F2 := (upN (upN (upN (upN F (4 * N) 8) (4 * N + 1) up) (4 * N + 2) u10) (4 * N + 3) (lv up + 1))) (m := ((oS s).length - 1)) (f := ((top1 s).1 ++ [(8, 0)], (top1 s).2 + 1)) li.2.2.2 (by omega) (by omega) (show (oS s).dropLast ++ [((top1 s).1 ++ [(8, 0)], (top1 s).2 + 1)] = _ by rw [dl_take]) (fun j hj => (upN_n (by omega)).trans ((upN_n (by omega)).trans ((upN_n (by omega)).trans ((upN_n (by omega)).trans (rfl))))) (fe_new (F2 := (upN (upN (upN (upN F (4 * N) 8) (4 * N + 1) up) (4 * N + 2) u10) (4 * N + 3) (lv up + 1))) (f := ((top1 s).1 ++ [(8, 0)], (top1 s).2 + 1)) (Nat.le_add_left _ _) (by show (top1 s).2 + 1 ≤ 6; rw [f2]; omega) (P3.trans (by show _ = (top1 s).2 + 1; rw [f2])) (Or.inr (Or.inr (Or.inr (Or.inr (Or.inr ⟨P0, by rw [P1]; omega, by show (top1 s).1 ++ [(8, 0)] = _; rw [P1, ht1], by show (top1 s).2 + 1 = _; rw [P1, f2]⟩))))))).mono (by omega)⟩)
        · exact absurd ((c_yr (by omega) (by rw [ht1]; exact c7)).symm.trans w30.2.1) (by decide)
      · have c8 := (nk_ne_f (a := N) 15 (by decide) (by omega) (by decide)).mp c8
        refine v_goto (tgt := 2313) C dL_law_826 (by decide) ?_
        refine v_lvp [7, 8, 9, 10, 11, 12, 13, 14, 15, 16, 17, 18, 19, 20, 21] rfl ?_
        exact v_widen (by omega) (by omega) (next _ _ _ _ _ _ _ _ _ _ _ _ _ ⟨hi, hw, lx, li.2.2.2.mono (by omega)⟩)
    · have c7 := (nk_ne_f (a := (lv up)) 6 (by decide) (by omega) (by decide)).mp c7
      refine v_aload_n C 20 rfl dL_law_793 rfl ?_
      refine v_iload C 4 rfl dL_law_794 ?_
      refine v_bipush (v := 8) C dL_law_796 (by decide) ?_
      refine v_icmp_ne (tgt := 805) C dL_law_798 (by decide) (fun c34 => ?_) (fun c34 => absurd c34 (by decide))
      refine v_iconst (v := 3) C dL_law_805 (by decide) ?_
      refine v_bipush (v := 50) C dL_law_806 (by decide) ?_
      refine v_iconst (v := 0) C dL_law_808 (by decide) ?_
      refine v_iconst (v := 0) C dL_law_809 (by decide) ?_
      refine v_callL (rest := []) C hNc (c_L_refused_year_3 l hl G x g s 50 0 0 h hi hw (c_yr1 (Or.inr (by rw [ht1]; exact c7)))) CL_L_151 rfl rfl (Nat.le_of_ble_eq_true rfl) ⟨Nat.le_of_ble_eq_true rfl, Nat.le_of_ble_eq_true rfl⟩ ⟨by show cs + 20 ≤ 670155; omega, by show sl + 9000 ≤ 7091004; omega⟩ dL_law_810 (fun r35 h35 w35 => ?_)
      obtain ⟨e35, rfl⟩ := w35; subst e35
      refine v_iconst (v := 3) C dL_law_813 (by decide) ?_
      refine v_icmp_eq (tgt := 2313) C dL_law_814 (by decide) (fun c36 => ?_) (fun c36 => absurd c36 (by decide))
      refine v_lvp [7, 8, 9, 10, 11, 12, 13, 14, 15, 16, 17, 18, 19, 20, 21] rfl ?_
      exact v_widen (by omega) (by omega) (next _ _ _ _ _ _ _ _ _ _ _ _ _ ⟨hi, hw, lx, li.2.2.2.mono (by omega)⟩)
set_option maxHeartbeats 8000000 in
set_option maxRecDepth 100000 in
theorem law_define {zp : Program} {l : Launch} {ze : Env} {zs : State} {zm : MethodId} {zargs : Array Value} {zbelow : List Frame} {zmeth : Method} {zc : Code} {G : zG} (hl : l.stackTraces = false) (C : zOK zp l ze room_1 zs zm zargs zbelow zmeth zc G cL_law 29 RL) (hNc : zNc zs) {Q : State → Prop} {sb t0 : Nat} {h : zH} {g : XGh} {x : Nat} {ad : Nat → Nat} {s : ZS} {F : Nat → Nat} {A D : Nat → Int32} {VV : Nat → Nat} {B U : Nat → Int32} {S : Nat → Nat} {T : Nat → List Tok} {lv : Nat → Nat} {N : Nat} (cs sl : Nat) (hcs : cs + 1300 ≤ 670155) (hsl : sl + 45000 ≤ 7091004) (q tm ts up : Nat) (x0 y0 : Int32) (kd : Nat) (li : LI G h g x ad s F A D VV B U S T lv N (700 * t0)) (ht0 : t0 < 60) (hq : q < 9) (htm : tm < oN s ∨ (oN s = 0 ∧ tm = 0)) (hts : ts < rN s ∨ (rN s = 0 ∧ ts = 0)) (hup : 0 < (oS s).length → up = S ((oS s).length - 1))  (chk : ∀ (h2 : zH) (g2 : XGh) (s2 : ZS) (F2 : Nat → Nat) (A2 D2 : Nat → Int32) (VV2 : Nat → Nat) (B2 U2 : Nat → Int32) (S2 : Nat → Nat) (T2 : Nat → List Tok) (lv2 : Nat → Nat) (N2 : Nat), LI G h2 g2 x ad s2 F2 A2 D2 VV2 B2 U2 S2 T2 lv2 N2 (700 * (t0 + 1)) → V zp l ze room_1 zs zm zargs zbelow zmeth zc G 29 Q h2 (cs + 200) (sl + 20000) 2268 [(20, .int (nI q)), (16, .int y0), (14, .int (nI t0)), (13, .int (nI (bN s2))), (12, .int (nI (rN s2))), (11, .int (nI (oN s2))), (10, .int (nI (oS s2).length)), (9, .int (nI N2)), (8, .ref (ad 6)), (7, .ref (ad 5)), (6, .ref (ad 4)), (5, .ref (ad 3)), (4, .ref (ad 2)), (3, .ref (ad 1)), (2, .ref (ad 0)), (1, .ref x), (0, .ref sb)] []) (next : ∀ (h2 : zH) (g2 : XGh) (s2 : ZS) (F2 : Nat → Nat) (A2 D2 : Nat → Int32) (VV2 : Nat → Nat) (B2 U2 : Nat → Int32) (S2 : Nat → Nat) (T2 : Nat → List Tok) (lv2 : Nat → Nat) (N2 : Nat), LI G h2 g2 x ad s2 F2 A2 D2 VV2 B2 U2 S2 T2 lv2 N2 (700 * (t0 + 1)) → V zp l ze room_1 zs zm zargs zbelow zmeth zc G 29 Q h2 (cs + 1300) (sl + 45000) 2313 [(14, .int (nI t0)), (13, .int (nI (bN s2))), (12, .int (nI (rN s2))), (11, .int (nI (oN s2))), (10, .int (nI (oS s2).length)), (9, .int (nI N2)), (8, .ref (ad 6)), (7, .ref (ad 5)), (6, .ref (ad 4)), (5, .ref (ad 3)), (4, .ref (ad 2)), (3, .ref (ad 1)), (2, .ref (ad 0)), (1, .ref x), (0, .ref sb)] []) : V zp l ze room_1 zs zm zargs zbelow zmeth zc G 29 Q h (cs) (sl) 943 [(21, .int (nI up)), (20, .int (nI q)), (19, .int (nI ts)), (18, .int (nI tm)), (17, .int (nI kd)), (16, .int y0), (15, .int x0), (14, .int (nI t0)), (13, .int (nI (bN s))), (12, .int (nI (rN s))), (11, .int (nI (oN s))), (10, .int (nI (oS s).length)), (9, .int (nI N)), (8, .ref (ad 6)), (7, .ref (ad 5)), (6, .ref (ad 4)), (5, .ref (ad 3)), (4, .ref (ad 2)), (3, .ref (ad 1)), (2, .ref (ad 0)), (1, .ref x), (0, .ref sb)] [] := by
  obtain ⟨hi, hw, lx, he, hs, hV, hd, hT, hU⟩ := id li
  have hM := he.1
  have hN6 := he.2.1
  have hK8 := hw.1
  have hR2 := hT.1
  have hB2 := hU.1
  refine v_iload C 11 rfl dL_law_943 ?_
  refine v_if_ne (tgt := 962) C dL_law_945 (by decide) (fun c1 => ?_) (fun c1 => ?_)
  · have c1 := (nk_ne (a := (oS s).length) 0 (by decide) (by omega) (by decide)).mp c1
    refine v_iload C 10 rfl dL_law_962 ?_
    refine v_bipush (v := 6) C dL_law_964 (by decide) ?_
    refine v_icmp_ne (tgt := 972) C dL_law_966 (by decide) (fun c2 => ?_) (fun c2 => ?_)
    · have c2 := (nk_ne (a := (oN s)) 6 (by decide) (by omega) (by decide)).mp c2
      obtain ⟨hupN, ht1⟩ := hs.top1 (by omega)
      rw [← hup (by omega)] at hupN ht1
      have hlu := he.2.2.1 up hupN
      have hlu6 := hlu.2.1
      have hlu1 := hlu.1
      refine v_aload C 17 rfl dL_law_972 ?_
      refine v_bipush (v := 10) C dL_law_974 (by decide) ?_
      refine v_iload C 10 rfl dL_law_976 ?_
      refine v_imul C dL_law_978 (v_eqi (nI_kml (oN s) 10 (by decide)) ?_)
      refine v_iload C 0 rfl dL_law_979 ?_
      refine v_iast C (lx.1.2.2.1) (vpin (show 10 * (oN s) < 60 by omega) (by decide)) dL_law_981 (v_nw (fun h4 eh4 => ?_))
      have lw4 := lx.p2 (i := 10 * (oN s)) (y := (nI up)) (by omega) eh4
      have xi4 := lx.xi hi (i := 2) (by decide) eh4
      refine v_aload C 16 rfl dL_law_982 ?_
      refine v_iload C 10 rfl dL_law_984 ?_
      refine v_aload_n C 19 rfl dL_law_986 rfl ?_
      refine v_iconst (v := 4) C dL_law_987 (by decide) ?_
      refine v_iload C 0 rfl dL_law_988 ?_
      refine v_imul C dL_law_990 (v_eqi (nI_kml up 4 (by decide)) ?_)
      refine v_iconst (v := 3) C dL_law_991 (by decide) ?_
      refine v_iadd C dL_law_992 (v_eqi (nI_adk (4 * up) 3 (by decide)) ?_)
      refine v_iald C (lw4.1.1) (vpin (show 4 * up + 3 < 60 by omega) (by decide)) dL_law_993 (v_eqi (y := nI (lv up)) ((congrArg (fun j => nI (F j)) (nI_clamp (show 4 * up + 3 < 2 ^ 31 by omega))).trans (congrArg nI ((he.2.2.1 up hupN).2.2.1))) ?_)
      refine v_iast C (lw4.1.2.2.2.1) (vpin (show oN s < 6 by omega) (by decide)) dL_law_994 (v_nw (fun h7 eh7 => ?_))
      have lw7 := lw4.p3 (i := oN s) (v := lv up) (by omega) eh7
      have xi7 := lw4.xi xi4 (i := 3) (by decide) eh7
      refine v_iinc C 10 [(11, .int (nI ((oN s) + 1))), (21, .int (nI up)), (20, .int (nI q)), (19, .int (nI ts)), (18, .int (nI tm)), (17, .int (nI kd)), (16, .int y0), (15, .int x0), (14, .int (nI t0)), (13, .int (nI (bN s))), (12, .int (nI (rN s))), (10, .int (nI (oS s).length)), (9, .int (nI N)), (8, .ref (ad 6)), (7, .ref (ad 5)), (6, .ref (ad 4)), (5, .ref (ad 3)), (4, .ref (ad 2)), (3, .ref (ad 1)), (2, .ref (ad 0)), (1, .ref x), (0, .ref sb)] rfl (nI_inc (oN s) 1 (by decide)) rfl (by decide) dL_law_995 ?_
      refine v_iinc C 11 [(10, .int (nI ((oS s).length - 1))), (11, .int (nI ((oN s) + 1))), (21, .int (nI up)), (20, .int (nI q)), (19, .int (nI ts)), (18, .int (nI tm)), (17, .int (nI kd)), (16, .int y0), (15, .int x0), (14, .int (nI t0)), (13, .int (nI (bN s))), (12, .int (nI (rN s))), (9, .int (nI N)), (8, .ref (ad 6)), (7, .ref (ad 5)), (6, .ref (ad 4)), (5, .ref (ad 3)), (4, .ref (ad 2)), (3, .ref (ad 1)), (2, .ref (ad 0)), (1, .ref x), (0, .ref sb)] rfl (nI_dec (p := (oS s).length) (by omega)) rfl (by decide) dL_law_998 ?_
      refine v_aload_n C 20 rfl dL_law_1001 rfl ?_
      refine v_callVX (rest := []) C (c_X4_define l hl G x g s h7 xi7 hw) K_L_105 xi7.1.1.1 rfl rfl (Nat.le_of_ble_eq_true rfl) ⟨Nat.le_of_ble_eq_true rfl, Nat.le_of_ble_eq_true rfl⟩ ⟨by show cs + 20 ≤ 670155; omega, by show sl + 9000 ≤ 7091004; omega⟩ dL_law_1002 (fun r10 h10 w10 => ?_) (fun E10 h10 w10 => ?_)
      · obtain ⟨-, er10, g10, xi10, fz10⟩ := w10
        have lw10 := lw7.fr fz10
        have fr10 := fz10
        replace er10 := er10.trans (rfl)
        subst er10
        refine v_iload C 1 rfl dL_law_1005 ?_
        refine v_iconst (v := 1) C dL_law_1007 (by decide) ?_
        refine v_isub C dL_law_1008 (v_eqi (y := (nI (oN s))) ((nI_sbk (a := oN s + 1) 1 (by decide) (by omega))) ?_)
        refine v_icmp_eq (tgt := 2268) C dL_law_1009 (by decide) (fun c12 => ?_) (fun c12 => absurd rfl c12)
        have hlen : (oS (nDefine s)).length = (oS s).length - 1 := List.length_dropLast
        refine v_lvp (lv2 := [(20, .int (nI q)), (16, .int y0), (14, .int (nI t0)), (13, .int (nI (bN (nDefine s)))), (12, .int (nI (rN (nDefine s)))), (11, .int (nI (oN (nDefine s)))), (10, .int (nI (oS (nDefine s)).length)), (9, .int (nI N)), (8, .ref (ad 6)), (7, .ref (ad 5)), (6, .ref (ad 4)), (5, .ref (ad 3)), (4, .ref (ad 2)), (3, .ref (ad 1)), (2, .ref (ad 0)), (1, .ref x), (0, .ref sb)]) [3, 7, 9, 10, 11, 1, 0, 12, 13, 14, 15, 16, 17, 18, 19, 20, 21] (by rw [hlen]; rfl) ?_
        exact v_widen (by omega) (by omega) (chk _ _ _ _ _ _ _ _ _ _ _ _ _ ⟨xi10, (wf_define hw (c_def (by omega) (by omega))), lw10, ((rs_define li.2.2.2 hw (by omega) hupN ht1).mono (by omega))⟩)
      · exact absurd ((c_def (by omega) (by omega)).symm.trans w10.2.1) (by decide)
    · have c2 := (nk_ne_f (a := (oN s)) 6 (by decide) (by omega) (by decide)).mp c2
      refine v_goto (tgt := 2313) C dL_law_969 (by decide) ?_
      refine v_lvp [7, 8, 9, 10, 11, 12, 13, 14, 15, 16, 17, 18, 19, 20, 21] rfl ?_
      exact v_widen (by omega) (by omega) (next _ _ _ _ _ _ _ _ _ _ _ _ _ ⟨hi, hw, lx, li.2.2.2.mono (by omega)⟩)
  · have c1 := (nk_ne_f (a := (oS s).length) 0 (by decide) (by omega) (by decide)).mp c1
    refine v_aload_n C 20 rfl dL_law_948 rfl ?_
    refine v_iconst (v := 4) C dL_law_949 (by decide) ?_
    refine v_iconst (v := 0) C dL_law_950 (by decide) ?_
    refine v_iconst (v := 0) C dL_law_951 (by decide) ?_
    refine v_iconst (v := 0) C dL_law_952 (by decide) ?_
    refine v_callL (rest := []) C hNc (c_L_refused_define_3 l hl G x g s 0 0 0 h hi hw (c_def1 (by omega))) CL_L_151 rfl rfl (Nat.le_of_ble_eq_true rfl) ⟨Nat.le_of_ble_eq_true rfl, Nat.le_of_ble_eq_true rfl⟩ ⟨by show cs + 20 ≤ 670155; omega, by show sl + 9000 ≤ 7091004; omega⟩ dL_law_953 (fun r13 h13 w13 => ?_)
    obtain ⟨e13, rfl⟩ := w13; subst e13
    refine v_iconst (v := 3) C dL_law_956 (by decide) ?_
    refine v_icmp_eq (tgt := 2313) C dL_law_957 (by decide) (fun c14 => ?_) (fun c14 => absurd c14 (by decide))
    refine v_lvp [7, 8, 9, 10, 11, 12, 13, 14, 15, 16, 17, 18, 19, 20, 21] rfl ?_
    exact v_widen (by omega) (by omega) (next _ _ _ _ _ _ _ _ _ _ _ _ _ ⟨hi, hw, lx, li.2.2.2.mono (by omega)⟩)

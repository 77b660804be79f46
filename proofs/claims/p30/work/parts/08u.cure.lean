set_option maxHeartbeats 8000000 in
set_option maxRecDepth 100000 in
theorem law_cure {zp : Program} {l : Launch} {ze : Env} {zs : State} {zm : MethodId} {zargs : Array Value} {zbelow : List Frame} {zmeth : Method} {zc : Code} {G : zG} (hl : l.stackTraces = false) (C : zOK zp l ze room_1 zs zm zargs zbelow zmeth zc G cL_law 29 RL) (hNc : zNc zs) {Q : State → Prop} {sb t0 : Nat} {h : zH} {g : XGh} {x : Nat} {ad : Nat → Nat} {s : ZS} {F : Nat → Nat} {A D : Nat → Int32} {VV : Nat → Nat} {B U : Nat → Int32} {S : Nat → Nat} {T : Nat → List Tok} {lv : Nat → Nat} {N : Nat} (cs sl : Nat) (hcs : cs + 1300 ≤ 670155) (hsl : sl + 45000 ≤ 7091004) (q tm ts up : Nat) (x0 y0 : Int32)  (li : LI G h g x ad s F A D VV B U S T lv N (700 * t0)) (ht0 : t0 < 60) (hq : q < 9) (htm : tm < oN s ∨ (oN s = 0 ∧ tm = 0)) (hts : ts < rN s ∨ (rN s = 0 ∧ ts = 0)) (hup : 0 < (oS s).length → up = S ((oS s).length - 1))  (chk : ∀ (h2 : zH) (g2 : XGh) (s2 : ZS) (F2 : Nat → Nat) (A2 D2 : Nat → Int32) (VV2 : Nat → Nat) (B2 U2 : Nat → Int32) (S2 : Nat → Nat) (T2 : Nat → List Tok) (lv2 : Nat → Nat) (N2 : Nat), LI G h2 g2 x ad s2 F2 A2 D2 VV2 B2 U2 S2 T2 lv2 N2 (700 * (t0 + 1)) → V zp l ze room_1 zs zm zargs zbelow zmeth zc G 29 Q h2 (cs + 200) (sl + 20000) 2268 [(20, .int (nI q)), (16, .int y0), (14, .int (nI t0)), (13, .int (nI (bN s2))), (12, .int (nI (rN s2))), (11, .int (nI (oN s2))), (10, .int (nI (oS s2).length)), (9, .int (nI N2)), (8, .ref (ad 6)), (7, .ref (ad 5)), (6, .ref (ad 4)), (5, .ref (ad 3)), (4, .ref (ad 2)), (3, .ref (ad 1)), (2, .ref (ad 0)), (1, .ref x), (0, .ref sb)] []) (next : ∀ (h2 : zH) (g2 : XGh) (s2 : ZS) (F2 : Nat → Nat) (A2 D2 : Nat → Int32) (VV2 : Nat → Nat) (B2 U2 : Nat → Int32) (S2 : Nat → Nat) (T2 : Nat → List Tok) (lv2 : Nat → Nat) (N2 : Nat), LI G h2 g2 x ad s2 F2 A2 D2 VV2 B2 U2 S2 T2 lv2 N2 (700 * (t0 + 1)) → V zp l ze room_1 zs zm zargs zbelow zmeth zc G 29 Q h2 (cs + 1300) (sl + 45000) 2313 [(14, .int (nI t0)), (13, .int (nI (bN s2))), (12, .int (nI (rN s2))), (11, .int (nI (oN s2))), (10, .int (nI (oS s2).length)), (9, .int (nI N2)), (8, .ref (ad 6)), (7, .ref (ad 5)), (6, .ref (ad 4)), (5, .ref (ad 3)), (4, .ref (ad 2)), (3, .ref (ad 1)), (2, .ref (ad 0)), (1, .ref x), (0, .ref sb)] []) : V zp l ze room_1 zs zm zargs zbelow zmeth zc G 29 Q h (cs) (sl) 1535 [(21, .int (nI up)), (20, .int (nI q)), (19, .int (nI ts)), (18, .int (nI tm)), (17, .int (nI 16)), (16, .int y0), (15, .int x0), (14, .int (nI t0)), (13, .int (nI (bN s))), (12, .int (nI (rN s))), (11, .int (nI (oN s))), (10, .int (nI (oS s).length)), (9, .int (nI N)), (8, .ref (ad 6)), (7, .ref (ad 5)), (6, .ref (ad 4)), (5, .ref (ad 3)), (4, .ref (ad 2)), (3, .ref (ad 1)), (2, .ref (ad 0)), (1, .ref x), (0, .ref sb)] [] := by
  obtain ⟨hi, hw, lx, he, hs, hV, hd, hT, hU⟩ := id li
  have hM := he.1
  have hN6 := he.2.1
  have hK8 := hw.1
  have hR2 := hT.1
  have hB2 := hU.1
  refine v_iload C 9 rfl dL_law_1535 ?_
  refine v_if_ne (tgt := 1543) C dL_law_1537 (by decide) (fun c1 => ?_) (fun c1 => ?_)
  · have c1 := (nk_ne (a := (rN s)) 0 (by decide) (by omega) (by decide)).mp c1
    obtain ⟨hE0, hE3, hEc, hEz⟩ := hT.2 ts (by omega)
    obtain ⟨e0, e1, e2, eL⟩ := hE0 (by omega)
    obtain ⟨hrT, hrB, hrW, hrQ⟩ := hw.2.2.2.2.1.2.1 ts (by omega)
    have hz : ∀ z, 9 ≤ z → z < 20 → rC s ts z = 0 := fun z a b => (hEz z a b).2
    refine v_iconst (v := 1) C dL_law_1543 (by decide) ?_
    refine v_iload C 6 rfl dL_law_1544 ?_
    refine v_iconst (v := 5) C dL_law_1546 (by decide) ?_
    refine v_ishr C dL_law_1547 (v_topi (fun i2 e2 => ?_))
    refine v_sipush (v := 3000) C dL_law_1548 (by decide) ?_
    refine v_callS (rest := [.int 1]) C (c_L_low l hl G i2 3000 h (by decide) (by omega)) S_L_178 rfl rfl (Nat.le_of_ble_eq_true rfl) ⟨Nat.le_of_ble_eq_true rfl, Nat.le_of_ble_eq_true rfl⟩ ⟨by show cs + 0 ≤ 670155; omega, by show sl + 0 ≤ 7091004; omega⟩ dL_law_1551 (fun i3 h3 q3 => ?_)
    obtain ⟨e3, rfl⟩ := q3
    obtain ⟨u3, hu3, eu3⟩ : ∃ u, u < 3000 ∧ lw i2 3000 = u := ⟨_, lw_lt (by decide), rfl⟩
    rw [eu3] at e3; subst e3
    refine v_iadd C dL_law_1554 (v_eqi (nI_kad u3 1 (by decide)) ?_)
    refine v_istore C [(22, .int (nI (1 + u3))), (21, .int (nI up)), (20, .int (nI q)), (19, .int (nI ts)), (18, .int (nI tm)), (17, .int (nI 16)), (16, .int y0), (15, .int x0), (14, .int (nI t0)), (13, .int (nI (bN s))), (12, .int (nI (rN s))), (11, .int (nI (oN s))), (10, .int (nI (oS s).length)), (9, .int (nI N)), (8, .ref (ad 6)), (7, .ref (ad 5)), (6, .ref (ad 4)), (5, .ref (ad 3)), (4, .ref (ad 2)), (3, .ref (ad 1)), (2, .ref (ad 0)), (1, .ref x), (0, .ref sb)] rfl (by decide) dL_law_1555 ?_
    refine v_iconst (v := 0) C dL_law_1557 (by decide) ?_
    refine v_istore C [(23, .int 0), (22, .int (nI (1 + u3))), (21, .int (nI up)), (20, .int (nI q)), (19, .int (nI ts)), (18, .int (nI tm)), (17, .int (nI 16)), (16, .int y0), (15, .int x0), (14, .int (nI t0)), (13, .int (nI (bN s))), (12, .int (nI (rN s))), (11, .int (nI (oN s))), (10, .int (nI (oS s).length)), (9, .int (nI N)), (8, .ref (ad 6)), (7, .ref (ad 5)), (6, .ref (ad 4)), (5, .ref (ad 3)), (4, .ref (ad 2)), (3, .ref (ad 1)), (2, .ref (ad 0)), (1, .ref x), (0, .ref sb)] rfl (by decide) dL_law_1558 ?_
    refine v_iconst (v := 0) C dL_law_1560 (by decide) ?_
    refine v_istore C [(24, .int 0), (23, .int 0), (22, .int (nI (1 + u3))), (21, .int (nI up)), (20, .int (nI q)), (19, .int (nI ts)), (18, .int (nI tm)), (17, .int (nI 16)), (16, .int y0), (15, .int x0), (14, .int (nI t0)), (13, .int (nI (bN s))), (12, .int (nI (rN s))), (11, .int (nI (oN s))), (10, .int (nI (oS s).length)), (9, .int (nI N)), (8, .ref (ad 6)), (7, .ref (ad 5)), (6, .ref (ad 4)), (5, .ref (ad 3)), (4, .ref (ad 2)), (3, .ref (ad 1)), (2, .ref (ad 0)), (1, .ref x), (0, .ref sb)] rfl (by decide) dL_law_1561 ?_
    refine v_iconst (v := 0) C dL_law_1563 (by decide) ?_
    refine v_istore C [(25, .int 0), (24, .int 0), (23, .int 0), (22, .int (nI (1 + u3))), (21, .int (nI up)), (20, .int (nI q)), (19, .int (nI ts)), (18, .int (nI tm)), (17, .int (nI 16)), (16, .int y0), (15, .int x0), (14, .int (nI t0)), (13, .int (nI (bN s))), (12, .int (nI (rN s))), (11, .int (nI (oN s))), (10, .int (nI (oS s).length)), (9, .int (nI N)), (8, .ref (ad 6)), (7, .ref (ad 5)), (6, .ref (ad 4)), (5, .ref (ad 3)), (4, .ref (ad 2)), (3, .ref (ad 1)), (2, .ref (ad 0)), (1, .ref x), (0, .ref sb)] rfl (by decide) dL_law_1564 ?_
    have L5 : ∀ (d : Nat) (f mo : Nat), (f ≤ 9) → (∀ z, z < f → z ≤ q → q < z + 4 → 1 + cw (rC s ts) z 4 ≤ mo) → (mo = 0 ∨ ∃ z, z < f ∧ z ≤ q ∧ q < z + 4 ∧ mo = 1 + cw (rC s ts) z 4) → (mo ≤ 5) → (9 < f + d) → V zp l ze room_1 zs zm zargs zbelow zmeth zc G 29 Q h (cs + 0) (sl + 0) 1566 [(25, .int (nI f)), (24, .int 0), (23, .int (nI mo)), (22, .int (nI (1 + u3))), (21, .int (nI up)), (20, .int (nI q)), (19, .int (nI ts)), (18, .int (nI tm)), (17, .int (nI 16)), (16, .int y0), (15, .int x0), (14, .int (nI t0)), (13, .int (nI (bN s))), (12, .int (nI (rN s))), (11, .int (nI (oN s))), (10, .int (nI (oS s).length)), (9, .int (nI N)), (8, .ref (ad 6)), (7, .ref (ad 5)), (6, .ref (ad 4)), (5, .ref (ad 3)), (4, .ref (ad 2)), (3, .ref (ad 1)), (2, .ref (ad 0)), (1, .ref x), (0, .ref sb)] [] := by
      intro d
      induction d with
      | zero =>
        intro f mo hf9 hm1 hm2 hmo hd
        exact absurd hd (by omega)
      | succ d ih5 =>
        intro f mo hf9 hm1 hm2 hmo hd
        refine v_iload C 0 rfl dL_law_1566 ?_
        refine v_bipush (v := 9) C dL_law_1568 (by decide) ?_
        refine v_icmp_ge (tgt := 1687) C dL_law_1570 (by decide) (fun c6 => ?_) (fun c6 => ?_)
        · have c6 := (nk_ge (a := f) 9 (by decide) (by omega) (by decide)).mp c6
          refine v_aload C 19 rfl dL_law_1687 ?_
          refine v_bipush (v := 32) C dL_law_1689 (by decide) ?_
          refine v_iload C 6 rfl dL_law_1691 ?_
          refine v_imul C dL_law_1693 (v_eqi (nI_kml ts 32 (by decide)) ?_)
          refine v_bipush (v := 13) C dL_law_1694 (by decide) ?_
          refine v_iadd C dL_law_1696 (v_eqi (nI_adk (32 * ts) 13 (by decide)) ?_)
          refine v_iload C 5 rfl dL_law_1697 ?_
          refine v_iadd C dL_law_1699 (v_eqi (nI_add ((32 * ts) + 13) q) ?_)
          refine v_iald C (lx.1.2.2.2.2.1) (vpin (show 32 * ts + 13 + q < 64 by omega) (by decide)) dL_law_1700 (v_eqi (y := (rC s ts q)) ((congrArg B (nI_clamp (show 32 * ts + 13 + q < 2 ^ 31 by omega))).trans ((hEc q hq).1)) ?_)
          refine v_if_gt (tgt := 1710) C dL_law_1701 (by decide) (fun c10 => ?_) (fun c10 => ?_)
          · refine v_aload_n C 24 rfl dL_law_1710 rfl ?_
            refine v_bipush (v := 6) C dL_law_1711 (by decide) ?_
            refine v_iload C 6 rfl dL_law_1713 ?_
            refine v_iload C 5 rfl dL_law_1715 ?_
            refine v_iload C 3 rfl dL_law_1717 ?_
            refine v_callL (rest := []) C hNc (c_L_refused_cure_3 l hl G x g s (nI ts) (nI q) (nI (1 + u3)) h hi hw (c_cu3 hR2 (by omega) (by omega) (by omega) (by omega) (Or.inl ((rC_sgn ((hrQ q (by omega)).2)).mp c10)))) CL_L_151 rfl rfl (Nat.le_of_ble_eq_true rfl) ⟨Nat.le_of_ble_eq_true rfl, Nat.le_of_ble_eq_true rfl⟩ ⟨by show cs + 0 + 10 ≤ 670155; omega, by show sl + 0 + 200 ≤ 7091004; omega⟩ dL_law_1719 (fun r11 h11 w11 => ?_)
            obtain ⟨e11, rfl⟩ := w11; subst e11
            refine v_iconst (v := 3) C dL_law_1722 (by decide) ?_
            refine v_icmp_eq (tgt := 2313) C dL_law_1723 (by decide) (fun c12 => ?_) (fun c12 => absurd c12 (by decide))
            refine v_lvp [11, 12, 13, 14, 15, 16, 17, 18, 19, 20, 21, 22, 23, 24, 25] rfl ?_
            exact v_widen (by omega) (by omega) (next _ _ _ _ _ _ _ _ _ _ _ _ _ ⟨hi, hw, lx, li.2.2.2.mono (by omega)⟩)
          · refine v_iload C 2 rfl dL_law_1704 ?_
            refine v_iconst (v := 2) C dL_law_1706 (by decide) ?_
            refine v_icmp_le (tgt := 1728) C dL_law_1707 (by decide) (fun c13 => ?_) (fun c13 => ?_)
            · have c13 := (nk_le (a := mo) 2 (by decide) (by omega) (by decide)).mp c13
              refine v_aload C 19 rfl dL_law_1728 ?_
              refine v_bipush (v := 32) C dL_law_1730 (by decide) ?_
              refine v_iload C 6 rfl dL_law_1732 ?_
              refine v_imul C dL_law_1734 (v_eqi (nI_kml ts 32 (by decide)) ?_)
              refine v_bipush (v := 13) C dL_law_1735 (by decide) ?_
              refine v_iadd C dL_law_1737 (v_eqi (nI_adk (32 * ts) 13 (by decide)) ?_)
              refine v_iload C 5 rfl dL_law_1738 ?_
              refine v_iadd C dL_law_1740 (v_eqi (nI_add ((32 * ts) + 13) q) ?_)
              refine v_iload C 3 rfl dL_law_1741 ?_
              refine v_iast C (lx.1.2.2.2.2.1) (vpin (show 32 * ts + 13 + q < 64 by omega) (by decide)) dL_law_1743 (v_nw (fun h17 eh17 => ?_))
              have lw17 := lx.p4 (i := 32 * ts + 13 + q) (y := (nI (1 + u3))) (by omega) eh17
              have xi17 := lx.xi hi (i := 4) (by decide) eh17
              have hK0 : kCure s (nI ts) (nI q) (nI (1 + u3)) = 0 := c_cu0 hR2 (by omega) (by omega) (by omega) (by omega) (Decidable.not_not.mp (fun z => c10 ((rC_sgn ((hrQ q (by omega)).2)).mpr z))) (cu_all hz hq (m := mo) (fun z _ h1 h2 => hm1 z (by omega) h1 h2) (by omega))
              have hr2 := rs_cure li.2.2.2 (r := ts) (v := nI (1 + u3)) (by omega) hq
              have hw2 := wf_cure hw hK0
              have eB : ∀ z, z < 9 → (up2 B (32 * ts + 13 + q) (nI (1 + u3))) (32 * ts + 13 + z) = rC (nCure s (nI ts) (nI q) (nI (1 + u3))) ts z := fun z hz9 => ((hr2.2.2.2.2.1.2 ts (by omega)).2.2.1 z hz9).1
              have hwL : ∀ z, z < 9 → wth (rC (nCure s (nI ts) (nI q) (nI (1 + u3))) ts z) 0 1000000 := fun z hz9 => ((hw2.2.2.2.2.1.2.1 ts (by show ts < rN s; omega)).2.2.2 z (by omega)).2
              refine v_iconst (v := 0) C dL_law_1744 (by decide) ?_
              refine v_istore C [(25, .int 0), (24, .int 0), (23, .int (nI mo)), (22, .int (nI (1 + u3))), (21, .int (nI up)), (20, .int (nI q)), (19, .int (nI ts)), (18, .int (nI tm)), (17, .int (nI 16)), (16, .int y0), (15, .int x0), (14, .int (nI t0)), (13, .int (nI (bN s))), (12, .int (nI (rN s))), (11, .int (nI (oN s))), (10, .int (nI (oS s).length)), (9, .int (nI N)), (8, .ref (ad 6)), (7, .ref (ad 5)), (6, .ref (ad 4)), (5, .ref (ad 3)), (4, .ref (ad 2)), (3, .ref (ad 1)), (2, .ref (ad 0)), (1, .ref x), (0, .ref sb)] rfl (by decide) dL_law_1745 ?_
              have L18 : ∀ (d : Nat) (i : Nat), (i ≤ 9) → (9 < i + d) → V zp l ze room_1 zs zm zargs zbelow zmeth zc G 29 Q h17 (cs + 0) (sl + 0) 1747 [(25, .int (nI i)), (24, .int (nI (cnt (fun z => decide (¬ rC (nCure s (nI ts) (nI q) (nI (1 + u3))) ts z = 0)) i))), (23, .int (nI mo)), (22, .int (nI (1 + u3))), (21, .int (nI up)), (20, .int (nI q)), (19, .int (nI ts)), (18, .int (nI tm)), (17, .int (nI 16)), (16, .int y0), (15, .int x0), (14, .int (nI t0)), (13, .int (nI (bN s))), (12, .int (nI (rN s))), (11, .int (nI (oN s))), (10, .int (nI (oS s).length)), (9, .int (nI N)), (8, .ref (ad 6)), (7, .ref (ad 5)), (6, .ref (ad 4)), (5, .ref (ad 3)), (4, .ref (ad 2)), (3, .ref (ad 1)), (2, .ref (ad 0)), (1, .ref x), (0, .ref sb)] [] := by
                intro d
                induction d with
                | zero =>
                  intro i hi9 hd
                  exact absurd hd (by omega)
                | succ d ih18 =>
                  intro i hi9 hd
                  refine v_iload C 0 rfl dL_law_1747 ?_
                  refine v_bipush (v := 9) C dL_law_1749 (by decide) ?_
                  refine v_icmp_ge (tgt := 1787) C dL_law_1751 (by decide) (fun c19 => ?_) (fun c19 => ?_)
                  · have c19 := (nk_ge (a := i) 9 (by decide) (by omega) (by decide)).mp c19
                    refine v_aload_n C 24 rfl dL_law_1787 rfl ?_
                    refine v_iload C 6 rfl dL_law_1788 ?_
                    refine v_iload C 5 rfl dL_law_1790 ?_
                    refine v_iload C 3 rfl dL_law_1792 ?_
                    refine v_callVX (rest := []) C (c_X4_cure l hl G x g s (nI ts) (nI q) (nI (1 + u3)) h17 xi17 hw) K_L_111 xi17.1.1.1 rfl rfl (Nat.le_of_ble_eq_true rfl) ⟨Nat.le_of_ble_eq_true rfl, Nat.le_of_ble_eq_true rfl⟩ ⟨by show cs + 0 + 10 ≤ 670155; omega, by show sl + 0 + 200 ≤ 7091004; omega⟩ dL_law_1794 (fun r20 h20 w20 => ?_) (fun E20 h20 w20 => ?_)
                    · obtain ⟨-, er20, g20, xi20, fz20⟩ := w20
                      have lw20 := lw17.fr fz20
                      have fr20 := fz20
                      replace er20 := er20.trans (by rw [cl_nI (show ts < 2 ^ 31 by omega)])
                      subst er20
                      refine v_iload C 1 rfl dL_law_1797 ?_
                      refine v_icmp_eq (tgt := 1804) C dL_law_1799 (by decide) (fun c21 => ?_) (fun c21 => absurd (congrArg nI (show cnt (fun z => decide (¬ rC (nCure s (nI ts) (nI q) (nI (1 + u3))) ts z = 0)) 20 = cnt (fun z => decide (¬ rC (nCure s (nI ts) (nI q) (nI (1 + u3))) ts z = 0)) i by rw [show i = 9 by omega]; exact cnt_20 (by decide) (fun z h9 h20 => by exact decide_eq_false (fun y => y ((hr2.2.2.2.2.1.2 ts (by omega)).2.2.2 z h9 h20).2)))) c21)
                      refine v_goto (tgt := 2268) C dL_law_1804 (by decide) ?_
                      refine v_lvp (lv2 := [(20, .int (nI q)), (16, .int y0), (14, .int (nI t0)), (13, .int (nI (bN (nCure s (nI ts) (nI q) (nI (1 + u3)))))), (12, .int (nI (rN (nCure s (nI ts) (nI q) (nI (1 + u3)))))), (11, .int (nI (oN (nCure s (nI ts) (nI q) (nI (1 + u3)))))), (10, .int (nI (oS (nCure s (nI ts) (nI q) (nI (1 + u3)))).length)), (9, .int (nI N)), (8, .ref (ad 6)), (7, .ref (ad 5)), (6, .ref (ad 4)), (5, .ref (ad 3)), (4, .ref (ad 2)), (3, .ref (ad 1)), (2, .ref (ad 0)), (1, .ref x), (0, .ref sb)]) [5, 9, 11, 12, 13, 14, 15, 16, 17, 18, 19, 20, 21, 22, 23, 24, 25] rfl ?_
                      exact v_widen (by omega) (by omega) (chk _ _ _ _ _ _ _ _ _ _ _ _ _ ⟨xi20, hw2, lw20, (hr2.mono (by omega))⟩)
                    · obtain ⟨-, w20⟩ := w20
                      rcases w20 with ⟨ek, -⟩ | ⟨ek, -⟩ | ⟨ek, -⟩
                      · exact absurd ((hK0).symm.trans ek) (by decide)
                      · exact absurd ((hK0).symm.trans ek) (by decide)
                      · exact absurd ((hK0).symm.trans ek) (by decide)
                  · have c19 := (nk_ge_f (a := i) 9 (by decide) (by omega) (by decide)).mp c19
                    refine v_iload C 1 rfl dL_law_1754 ?_
                    refine v_aload C 19 rfl dL_law_1756 ?_
                    refine v_bipush (v := 32) C dL_law_1758 (by decide) ?_
                    refine v_iload C 6 rfl dL_law_1760 ?_
                    refine v_imul C dL_law_1762 (v_eqi (nI_kml ts 32 (by decide)) ?_)
                    refine v_bipush (v := 13) C dL_law_1763 (by decide) ?_
                    refine v_iadd C dL_law_1765 (v_eqi (nI_adk (32 * ts) 13 (by decide)) ?_)
                    refine v_iload C 0 rfl dL_law_1766 ?_
                    refine v_iadd C dL_law_1768 (v_eqi (nI_add ((32 * ts) + 13) i) ?_)
                    refine v_iald C (lw17.1.2.2.2.2.1) (vpin (show 32 * ts + 13 + i < 64 by omega) (by decide)) dL_law_1769 (v_eqi (y := (rC (nCure s (nI ts) (nI q) (nI (1 + u3))) ts i)) ((congrArg (up2 B (32 * ts + 13 + q) (nI (1 + u3))) (nI_clamp (show 32 * ts + 13 + i < 2 ^ 31 by omega))).trans (eB i (by omega))) ?_)
                    refine v_if_le (tgt := 1777) C dL_law_1770 (by decide) (fun c25 => ?_) (fun c25 => ?_)
                    · refine v_iconst (v := 0) C dL_law_1777 (by decide) ?_
                      have c27 := Int32.not_lt.mpr c25
                      refine v_iadd C dL_law_1778 (v_eqi (y := (nI (cnt (fun z => decide (¬ rC (nCure s (nI ts) (nI q) (nI (1 + u3))) ts z = 0)) (i + 1)))) ((nI_adk _ 0 (by decide)).trans (congrArg nI (cnt_f (p := fun z => decide (¬ rC (nCure s (nI ts) (nI q) (nI (1 + u3))) ts z = 0)) (fun z => c27 ((rC_sgn (hwL i (by omega))).mpr (of_decide_eq_true z)))).symm)) ?_)
                      refine v_istore C [(24, .int (nI (cnt (fun z => decide (¬ rC (nCure s (nI ts) (nI q) (nI (1 + u3))) ts z = 0)) (i + 1)))), (25, .int (nI i)), (23, .int (nI mo)), (22, .int (nI (1 + u3))), (21, .int (nI up)), (20, .int (nI q)), (19, .int (nI ts)), (18, .int (nI tm)), (17, .int (nI 16)), (16, .int y0), (15, .int x0), (14, .int (nI t0)), (13, .int (nI (bN s))), (12, .int (nI (rN s))), (11, .int (nI (oN s))), (10, .int (nI (oS s).length)), (9, .int (nI N)), (8, .ref (ad 6)), (7, .ref (ad 5)), (6, .ref (ad 4)), (5, .ref (ad 3)), (4, .ref (ad 2)), (3, .ref (ad 1)), (2, .ref (ad 0)), (1, .ref x), (0, .ref sb)] rfl (by decide) dL_law_1779 ?_
                      refine v_iinc C 1 [(25, .int (nI (i + 1))), (24, .int (nI (cnt (fun z => decide (¬ rC (nCure s (nI ts) (nI q) (nI (1 + u3))) ts z = 0)) (i + 1)))), (23, .int (nI mo)), (22, .int (nI (1 + u3))), (21, .int (nI up)), (20, .int (nI q)), (19, .int (nI ts)), (18, .int (nI tm)), (17, .int (nI 16)), (16, .int y0), (15, .int x0), (14, .int (nI t0)), (13, .int (nI (bN s))), (12, .int (nI (rN s))), (11, .int (nI (oN s))), (10, .int (nI (oS s).length)), (9, .int (nI N)), (8, .ref (ad 6)), (7, .ref (ad 5)), (6, .ref (ad 4)), (5, .ref (ad 3)), (4, .ref (ad 2)), (3, .ref (ad 1)), (2, .ref (ad 0)), (1, .ref x), (0, .ref sb)] rfl (nI_inc i 1 (by decide)) rfl (by decide) dL_law_1781 ?_
                      refine v_goto (tgt := 1747) C dL_law_1784 (by decide) ?_
                      refine v_lvp [0, 1, 2, 3, 4, 5, 6, 7, 8, 9, 10, 11, 12, 13, 14, 15, 16, 17, 18, 19, 20, 21, 22, 23, 24, 25] rfl ?_
                      exact ih18 (i + 1) (by omega) (by omega)
                    · refine v_iconst (v := 1) C dL_law_1773 (by decide) ?_
                      refine v_goto (tgt := 1778) C dL_law_1774 (by decide) ?_
                      have c30 := Int32.not_le.mp c25
                      refine v_iadd C dL_law_1778 (v_eqi (y := (nI (cnt (fun z => decide (¬ rC (nCure s (nI ts) (nI q) (nI (1 + u3))) ts z = 0)) (i + 1)))) ((nI_adk _ 1 (by decide)).trans (congrArg nI (cnt_t (p := fun z => decide (¬ rC (nCure s (nI ts) (nI q) (nI (1 + u3))) ts z = 0)) (decide_eq_true ((rC_sgn (hwL i (by omega))).mp c30))).symm)) ?_)
                      refine v_istore C [(24, .int (nI (cnt (fun z => decide (¬ rC (nCure s (nI ts) (nI q) (nI (1 + u3))) ts z = 0)) (i + 1)))), (25, .int (nI i)), (23, .int (nI mo)), (22, .int (nI (1 + u3))), (21, .int (nI up)), (20, .int (nI q)), (19, .int (nI ts)), (18, .int (nI tm)), (17, .int (nI 16)), (16, .int y0), (15, .int x0), (14, .int (nI t0)), (13, .int (nI (bN s))), (12, .int (nI (rN s))), (11, .int (nI (oN s))), (10, .int (nI (oS s).length)), (9, .int (nI N)), (8, .ref (ad 6)), (7, .ref (ad 5)), (6, .ref (ad 4)), (5, .ref (ad 3)), (4, .ref (ad 2)), (3, .ref (ad 1)), (2, .ref (ad 0)), (1, .ref x), (0, .ref sb)] rfl (by decide) dL_law_1779 ?_
                      refine v_iinc C 1 [(25, .int (nI (i + 1))), (24, .int (nI (cnt (fun z => decide (¬ rC (nCure s (nI ts) (nI q) (nI (1 + u3))) ts z = 0)) (i + 1)))), (23, .int (nI mo)), (22, .int (nI (1 + u3))), (21, .int (nI up)), (20, .int (nI q)), (19, .int (nI ts)), (18, .int (nI tm)), (17, .int (nI 16)), (16, .int y0), (15, .int x0), (14, .int (nI t0)), (13, .int (nI (bN s))), (12, .int (nI (rN s))), (11, .int (nI (oN s))), (10, .int (nI (oS s).length)), (9, .int (nI N)), (8, .ref (ad 6)), (7, .ref (ad 5)), (6, .ref (ad 4)), (5, .ref (ad 3)), (4, .ref (ad 2)), (3, .ref (ad 1)), (2, .ref (ad 0)), (1, .ref x), (0, .ref sb)] rfl (nI_inc i 1 (by decide)) rfl (by decide) dL_law_1781 ?_
                      refine v_goto (tgt := 1747) C dL_law_1784 (by decide) ?_
                      refine v_lvp [0, 1, 2, 3, 4, 5, 6, 7, 8, 9, 10, 11, 12, 13, 14, 15, 16, 17, 18, 19, 20, 21, 22, 23, 24, 25] rfl ?_
                      exact ih18 (i + 1) (by omega) (by omega)
              refine v_lvp [0, 1, 2, 3, 4, 5, 6, 7, 8, 9, 10, 11, 12, 13, 14, 15, 16, 17, 18, 19, 20, 21, 22, 23, 24, 25] rfl ?_
              exact L18 10 0 (Nat.zero_le _) (by omega)
            · have c13 := (nk_le_f (a := mo) 2 (by decide) (by omega) (by decide)).mp c13
              refine v_aload_n C 24 rfl dL_law_1710 rfl ?_
              refine v_bipush (v := 6) C dL_law_1711 (by decide) ?_
              refine v_iload C 6 rfl dL_law_1713 ?_
              refine v_iload C 5 rfl dL_law_1715 ?_
              refine v_iload C 3 rfl dL_law_1717 ?_
              refine v_callL (rest := []) C hNc (c_L_refused_cure_3 l hl G x g s (nI ts) (nI q) (nI (1 + u3)) h hi hw (c_cu3 hR2 (by omega) (by omega) (by omega) (by omega) (Or.inr (cu_ex hz (hm2.imp id (fun ⟨z, a, b⟩ => ⟨z, by omega, b⟩)) (by omega))))) CL_L_151 rfl rfl (Nat.le_of_ble_eq_true rfl) ⟨Nat.le_of_ble_eq_true rfl, Nat.le_of_ble_eq_true rfl⟩ ⟨by show cs + 0 + 10 ≤ 670155; omega, by show sl + 0 + 200 ≤ 7091004; omega⟩ dL_law_1719 (fun r32 h32 w32 => ?_)
              obtain ⟨e32, rfl⟩ := w32; subst e32
              refine v_iconst (v := 3) C dL_law_1722 (by decide) ?_
              refine v_icmp_eq (tgt := 2313) C dL_law_1723 (by decide) (fun c33 => ?_) (fun c33 => absurd c33 (by decide))
              refine v_lvp [11, 12, 13, 14, 15, 16, 17, 18, 19, 20, 21, 22, 23, 24, 25] rfl ?_
              exact v_widen (by omega) (by omega) (next _ _ _ _ _ _ _ _ _ _ _ _ _ ⟨hi, hw, lx, li.2.2.2.mono (by omega)⟩)
        · have c6 := (nk_ge_f (a := f) 9 (by decide) (by omega) (by decide)).mp c6
          refine v_iload C 0 rfl dL_law_1573 ?_
          refine v_iload C 5 rfl dL_law_1575 ?_
          refine v_icmp_gt (tgt := 1593) C dL_law_1577 (by decide) (fun c34 => ?_) (fun c34 => ?_)
          · have c34 := (nn_gt (a := f) (b := q) (by omega) (by omega)).mp c34
            refine v_iconst (v := 0) C dL_law_1593 (by decide) ?_
            refine v_istore C [(26, .int 0), (25, .int (nI f)), (24, .int 0), (23, .int (nI mo)), (22, .int (nI (1 + u3))), (21, .int (nI up)), (20, .int (nI q)), (19, .int (nI ts)), (18, .int (nI tm)), (17, .int (nI 16)), (16, .int y0), (15, .int x0), (14, .int (nI t0)), (13, .int (nI (bN s))), (12, .int (nI (rN s))), (11, .int (nI (oN s))), (10, .int (nI (oS s).length)), (9, .int (nI N)), (8, .ref (ad 6)), (7, .ref (ad 5)), (6, .ref (ad 4)), (5, .ref (ad 3)), (4, .ref (ad 2)), (3, .ref (ad 1)), (2, .ref (ad 0)), (1, .ref x), (0, .ref sb)] rfl (by decide) dL_law_1594 ?_
            refine v_iload C 1 rfl dL_law_1596 ?_
            refine v_istore C [(27, .int (nI f)), (26, .int 0), (25, .int (nI f)), (24, .int 0), (23, .int (nI mo)), (22, .int (nI (1 + u3))), (21, .int (nI up)), (20, .int (nI q)), (19, .int (nI ts)), (18, .int (nI tm)), (17, .int (nI 16)), (16, .int y0), (15, .int x0), (14, .int (nI t0)), (13, .int (nI (bN s))), (12, .int (nI (rN s))), (11, .int (nI (oN s))), (10, .int (nI (oS s).length)), (9, .int (nI N)), (8, .ref (ad 6)), (7, .ref (ad 5)), (6, .ref (ad 4)), (5, .ref (ad 3)), (4, .ref (ad 2)), (3, .ref (ad 1)), (2, .ref (ad 0)), (1, .ref x), (0, .ref sb)] rfl (by decide) dL_law_1598 ?_
            have L35 : ∀ (d : Nat) (n : Nat), (n ≤ 4) → (4 < n + d) → V zp l ze room_1 zs zm zargs zbelow zmeth zc G 29 Q h (cs + 0) (sl + 0) 1600 [(27, .int (nI (f + n))), (26, .int (nI (0 + cw (rC s ts) f n))), (25, .int (nI f)), (24, .int 0), (23, .int (nI mo)), (22, .int (nI (1 + u3))), (21, .int (nI up)), (20, .int (nI q)), (19, .int (nI ts)), (18, .int (nI tm)), (17, .int (nI 16)), (16, .int y0), (15, .int x0), (14, .int (nI t0)), (13, .int (nI (bN s))), (12, .int (nI (rN s))), (11, .int (nI (oN s))), (10, .int (nI (oS s).length)), (9, .int (nI N)), (8, .ref (ad 6)), (7, .ref (ad 5)), (6, .ref (ad 4)), (5, .ref (ad 3)), (4, .ref (ad 2)), (3, .ref (ad 1)), (2, .ref (ad 0)), (1, .ref x), (0, .ref sb)] [] := by
              intro d
              induction d with
              | zero =>
                intro n hn4 hd
                exact absurd hd (by omega)
              | succ d ih35 =>
                intro n hn4 hd
                refine v_iload C 0 rfl dL_law_1600 ?_
                refine v_iload C 2 rfl dL_law_1602 ?_
                refine v_iconst (v := 4) C dL_law_1604 (by decide) ?_
                refine v_iadd C dL_law_1605 (v_eqi (nI_adk f 4 (by decide)) ?_)
                refine v_icmp_ge (tgt := 1649) C dL_law_1606 (by decide) (fun c37 => ?_) (fun c37 => ?_)
                · have c37 := (nn_ge (a := (f + n)) (b := (f + 4)) (by omega) (by omega)).mp c37
                  have hcl0 := cw_le (rC s ts) f n
                  refine v_iload C 1 rfl dL_law_1649 ?_
                  refine v_iload C 4 rfl dL_law_1651 ?_
                  refine v_icmp_le (tgt := 1677) C dL_law_1653 (by decide) (fun c38 => ?_) (fun c38 => ?_)
                  · have c38 := (nn_le (a := (0 + cw (rC s ts) f n)) (b := mo) (by omega) (by omega)).mp c38
                    refine v_iload C 4 rfl dL_law_1677 ?_
                    refine v_istore C [(23, .int (nI mo)), (27, .int (nI (f + n))), (26, .int (nI (0 + cw (rC s ts) f n))), (25, .int (nI f)), (24, .int 0), (22, .int (nI (1 + u3))), (21, .int (nI up)), (20, .int (nI q)), (19, .int (nI ts)), (18, .int (nI tm)), (17, .int (nI 16)), (16, .int y0), (15, .int x0), (14, .int (nI t0)), (13, .int (nI (bN s))), (12, .int (nI (rN s))), (11, .int (nI (oN s))), (10, .int (nI (oS s).length)), (9, .int (nI N)), (8, .ref (ad 6)), (7, .ref (ad 5)), (6, .ref (ad 4)), (5, .ref (ad 3)), (4, .ref (ad 2)), (3, .ref (ad 1)), (2, .ref (ad 0)), (1, .ref x), (0, .ref sb)] rfl (by decide) dL_law_1679 ?_
                    refine v_iinc C 3 [(25, .int (nI (f + 1))), (23, .int (nI mo)), (27, .int (nI (f + n))), (26, .int (nI (0 + cw (rC s ts) f n))), (24, .int 0), (22, .int (nI (1 + u3))), (21, .int (nI up)), (20, .int (nI q)), (19, .int (nI ts)), (18, .int (nI tm)), (17, .int (nI 16)), (16, .int y0), (15, .int x0), (14, .int (nI t0)), (13, .int (nI (bN s))), (12, .int (nI (rN s))), (11, .int (nI (oN s))), (10, .int (nI (oS s).length)), (9, .int (nI N)), (8, .ref (ad 6)), (7, .ref (ad 5)), (6, .ref (ad 4)), (5, .ref (ad 3)), (4, .ref (ad 2)), (3, .ref (ad 1)), (2, .ref (ad 0)), (1, .ref x), (0, .ref sb)] rfl (nI_inc f 1 (by decide)) rfl (by decide) dL_law_1681 ?_
                    refine v_goto (tgt := 1566) C dL_law_1684 (by decide) ?_
                    refine v_lvp [0, 4, 1, 5, 6, 7, 8, 9, 10, 11, 12, 13, 14, 15, 16, 17, 18, 19, 20, 21, 22, 23, 24, 25, 26, 27] rfl ?_
                    have hcw : cw (rC s ts) f 4 = cw (rC s ts) f n := (by rw [show n = 4 by omega])
                    have hcl := cw_le (rC s ts) f n
                    exact ih5 (f + 1) mo (by omega) (fun z h0 h1 h2 => by
                          by_cases y : z = f
                          · subst y; omega
                          · exact hm1 z (by omega) h1 h2) (hm2.imp id (fun ⟨z, a, b⟩ => ⟨z, by omega, b⟩)) (by omega) (by omega)
                  · have c38 := (nn_le_f (a := (0 + cw (rC s ts) f n)) (b := mo) (by omega) (by omega)).mp c38
                    refine v_iload C 2 rfl dL_law_1656 ?_
                    refine v_iload C 7 rfl dL_law_1658 ?_
                    refine v_icmp_gt (tgt := 1677) C dL_law_1660 (by decide) (fun c40 => ?_) (fun c40 => ?_)
                    · have c40 := (nn_gt (a := f) (b := q) (by omega) (by omega)).mp c40
                      refine v_iload C 4 rfl dL_law_1677 ?_
                      refine v_istore C [(23, .int (nI mo)), (27, .int (nI (f + n))), (26, .int (nI (0 + cw (rC s ts) f n))), (25, .int (nI f)), (24, .int 0), (22, .int (nI (1 + u3))), (21, .int (nI up)), (20, .int (nI q)), (19, .int (nI ts)), (18, .int (nI tm)), (17, .int (nI 16)), (16, .int y0), (15, .int x0), (14, .int (nI t0)), (13, .int (nI (bN s))), (12, .int (nI (rN s))), (11, .int (nI (oN s))), (10, .int (nI (oS s).length)), (9, .int (nI N)), (8, .ref (ad 6)), (7, .ref (ad 5)), (6, .ref (ad 4)), (5, .ref (ad 3)), (4, .ref (ad 2)), (3, .ref (ad 1)), (2, .ref (ad 0)), (1, .ref x), (0, .ref sb)] rfl (by decide) dL_law_1679 ?_
                      refine v_iinc C 3 [(25, .int (nI (f + 1))), (23, .int (nI mo)), (27, .int (nI (f + n))), (26, .int (nI (0 + cw (rC s ts) f n))), (24, .int 0), (22, .int (nI (1 + u3))), (21, .int (nI up)), (20, .int (nI q)), (19, .int (nI ts)), (18, .int (nI tm)), (17, .int (nI 16)), (16, .int y0), (15, .int x0), (14, .int (nI t0)), (13, .int (nI (bN s))), (12, .int (nI (rN s))), (11, .int (nI (oN s))), (10, .int (nI (oS s).length)), (9, .int (nI N)), (8, .ref (ad 6)), (7, .ref (ad 5)), (6, .ref (ad 4)), (5, .ref (ad 3)), (4, .ref (ad 2)), (3, .ref (ad 1)), (2, .ref (ad 0)), (1, .ref x), (0, .ref sb)] rfl (nI_inc f 1 (by decide)) rfl (by decide) dL_law_1681 ?_
                      refine v_goto (tgt := 1566) C dL_law_1684 (by decide) ?_
                      refine v_lvp [0, 4, 1, 5, 6, 7, 8, 9, 10, 11, 12, 13, 14, 15, 16, 17, 18, 19, 20, 21, 22, 23, 24, 25, 26, 27] rfl ?_
                      have hcw : cw (rC s ts) f 4 = cw (rC s ts) f n := (by rw [show n = 4 by omega])
                      have hcl := cw_le (rC s ts) f n
                      exact ih5 (f + 1) mo (by omega) (fun z h0 h1 h2 => by
                            by_cases y : z = f
                            · subst y; omega
                            · exact hm1 z (by omega) h1 h2) (hm2.imp id (fun ⟨z, a, b⟩ => ⟨z, by omega, b⟩)) (by omega) (by omega)
                    · have c40 := (nn_gt_f (a := f) (b := q) (by omega) (by omega)).mp c40
                      refine v_iload C 7 rfl dL_law_1663 ?_
                      refine v_iload C 2 rfl dL_law_1665 ?_
                      refine v_iconst (v := 4) C dL_law_1667 (by decide) ?_
                      refine v_iadd C dL_law_1668 (v_eqi (nI_adk f 4 (by decide)) ?_)
                      refine v_icmp_ge (tgt := 1677) C dL_law_1669 (by decide) (fun c43 => ?_) (fun c43 => ?_)
                      · have c43 := (nn_ge (a := q) (b := (f + 4)) (by omega) (by omega)).mp c43
                        refine v_iload C 4 rfl dL_law_1677 ?_
                        refine v_istore C [(23, .int (nI mo)), (27, .int (nI (f + n))), (26, .int (nI (0 + cw (rC s ts) f n))), (25, .int (nI f)), (24, .int 0), (22, .int (nI (1 + u3))), (21, .int (nI up)), (20, .int (nI q)), (19, .int (nI ts)), (18, .int (nI tm)), (17, .int (nI 16)), (16, .int y0), (15, .int x0), (14, .int (nI t0)), (13, .int (nI (bN s))), (12, .int (nI (rN s))), (11, .int (nI (oN s))), (10, .int (nI (oS s).length)), (9, .int (nI N)), (8, .ref (ad 6)), (7, .ref (ad 5)), (6, .ref (ad 4)), (5, .ref (ad 3)), (4, .ref (ad 2)), (3, .ref (ad 1)), (2, .ref (ad 0)), (1, .ref x), (0, .ref sb)] rfl (by decide) dL_law_1679 ?_
                        refine v_iinc C 3 [(25, .int (nI (f + 1))), (23, .int (nI mo)), (27, .int (nI (f + n))), (26, .int (nI (0 + cw (rC s ts) f n))), (24, .int 0), (22, .int (nI (1 + u3))), (21, .int (nI up)), (20, .int (nI q)), (19, .int (nI ts)), (18, .int (nI tm)), (17, .int (nI 16)), (16, .int y0), (15, .int x0), (14, .int (nI t0)), (13, .int (nI (bN s))), (12, .int (nI (rN s))), (11, .int (nI (oN s))), (10, .int (nI (oS s).length)), (9, .int (nI N)), (8, .ref (ad 6)), (7, .ref (ad 5)), (6, .ref (ad 4)), (5, .ref (ad 3)), (4, .ref (ad 2)), (3, .ref (ad 1)), (2, .ref (ad 0)), (1, .ref x), (0, .ref sb)] rfl (nI_inc f 1 (by decide)) rfl (by decide) dL_law_1681 ?_
                        refine v_goto (tgt := 1566) C dL_law_1684 (by decide) ?_
                        refine v_lvp [0, 4, 1, 5, 6, 7, 8, 9, 10, 11, 12, 13, 14, 15, 16, 17, 18, 19, 20, 21, 22, 23, 24, 25, 26, 27] rfl ?_
                        have hcw : cw (rC s ts) f 4 = cw (rC s ts) f n := (by rw [show n = 4 by omega])
                        have hcl := cw_le (rC s ts) f n
                        exact ih5 (f + 1) mo (by omega) (fun z h0 h1 h2 => by
                              by_cases y : z = f
                              · subst y; omega
                              · exact hm1 z (by omega) h1 h2) (hm2.imp id (fun ⟨z, a, b⟩ => ⟨z, by omega, b⟩)) (by omega) (by omega)
                      · have c43 := (nn_ge_f (a := q) (b := (f + 4)) (by omega) (by omega)).mp c43
                        refine v_iload C 1 rfl dL_law_1672 ?_
                        refine v_goto (tgt := 1679) C dL_law_1674 (by decide) ?_
                        refine v_istore C [(23, .int (nI (0 + cw (rC s ts) f n))), (27, .int (nI (f + n))), (26, .int (nI (0 + cw (rC s ts) f n))), (25, .int (nI f)), (24, .int 0), (22, .int (nI (1 + u3))), (21, .int (nI up)), (20, .int (nI q)), (19, .int (nI ts)), (18, .int (nI tm)), (17, .int (nI 16)), (16, .int y0), (15, .int x0), (14, .int (nI t0)), (13, .int (nI (bN s))), (12, .int (nI (rN s))), (11, .int (nI (oN s))), (10, .int (nI (oS s).length)), (9, .int (nI N)), (8, .ref (ad 6)), (7, .ref (ad 5)), (6, .ref (ad 4)), (5, .ref (ad 3)), (4, .ref (ad 2)), (3, .ref (ad 1)), (2, .ref (ad 0)), (1, .ref x), (0, .ref sb)] rfl (by decide) dL_law_1679 ?_
                        refine v_iinc C 3 [(25, .int (nI (f + 1))), (23, .int (nI (0 + cw (rC s ts) f n))), (27, .int (nI (f + n))), (26, .int (nI (0 + cw (rC s ts) f n))), (24, .int 0), (22, .int (nI (1 + u3))), (21, .int (nI up)), (20, .int (nI q)), (19, .int (nI ts)), (18, .int (nI tm)), (17, .int (nI 16)), (16, .int y0), (15, .int x0), (14, .int (nI t0)), (13, .int (nI (bN s))), (12, .int (nI (rN s))), (11, .int (nI (oN s))), (10, .int (nI (oS s).length)), (9, .int (nI N)), (8, .ref (ad 6)), (7, .ref (ad 5)), (6, .ref (ad 4)), (5, .ref (ad 3)), (4, .ref (ad 2)), (3, .ref (ad 1)), (2, .ref (ad 0)), (1, .ref x), (0, .ref sb)] rfl (nI_inc f 1 (by decide)) rfl (by decide) dL_law_1681 ?_
                        refine v_goto (tgt := 1566) C dL_law_1684 (by decide) ?_
                        refine v_lvp [0, 4, 1, 5, 6, 7, 8, 9, 10, 11, 12, 13, 14, 15, 16, 17, 18, 19, 20, 21, 22, 23, 24, 25, 26, 27] rfl ?_
                        have hcw : cw (rC s ts) f 4 = cw (rC s ts) f n := (by rw [show n = 4 by omega])
                        have hcl := cw_le (rC s ts) f n
                        exact ih5 (f + 1) (0 + cw (rC s ts) f n) (by omega) (fun z h0 h1 h2 => by
                              by_cases y : z = f
                              · subst y; omega
                              · have := hm1 z (by omega) h1 h2; omega) (Or.inl (by omega)) (by omega) (by omega)
                · have c37 := (nn_ge_f (a := (f + n)) (b := (f + 4)) (by omega) (by omega)).mp c37
                  refine v_iload C 0 rfl dL_law_1609 ?_
                  refine v_bipush (v := 9) C dL_law_1611 (by decide) ?_
                  refine v_icmp_ge (tgt := 1649) C dL_law_1613 (by decide) (fun c46 => ?_) (fun c46 => ?_)
                  · have c46 := (nk_ge (a := (f + n)) 9 (by decide) (by omega) (by decide)).mp c46
                    have hcl0 := cw_le (rC s ts) f n
                    refine v_iload C 1 rfl dL_law_1649 ?_
                    refine v_iload C 4 rfl dL_law_1651 ?_
                    refine v_icmp_le (tgt := 1677) C dL_law_1653 (by decide) (fun c47 => ?_) (fun c47 => ?_)
                    · have c47 := (nn_le (a := (0 + cw (rC s ts) f n)) (b := mo) (by omega) (by omega)).mp c47
                      refine v_iload C 4 rfl dL_law_1677 ?_
                      refine v_istore C [(23, .int (nI mo)), (27, .int (nI (f + n))), (26, .int (nI (0 + cw (rC s ts) f n))), (25, .int (nI f)), (24, .int 0), (22, .int (nI (1 + u3))), (21, .int (nI up)), (20, .int (nI q)), (19, .int (nI ts)), (18, .int (nI tm)), (17, .int (nI 16)), (16, .int y0), (15, .int x0), (14, .int (nI t0)), (13, .int (nI (bN s))), (12, .int (nI (rN s))), (11, .int (nI (oN s))), (10, .int (nI (oS s).length)), (9, .int (nI N)), (8, .ref (ad 6)), (7, .ref (ad 5)), (6, .ref (ad 4)), (5, .ref (ad 3)), (4, .ref (ad 2)), (3, .ref (ad 1)), (2, .ref (ad 0)), (1, .ref x), (0, .ref sb)] rfl (by decide) dL_law_1679 ?_
                      refine v_iinc C 3 [(25, .int (nI (f + 1))), (23, .int (nI mo)), (27, .int (nI (f + n))), (26, .int (nI (0 + cw (rC s ts) f n))), (24, .int 0), (22, .int (nI (1 + u3))), (21, .int (nI up)), (20, .int (nI q)), (19, .int (nI ts)), (18, .int (nI tm)), (17, .int (nI 16)), (16, .int y0), (15, .int x0), (14, .int (nI t0)), (13, .int (nI (bN s))), (12, .int (nI (rN s))), (11, .int (nI (oN s))), (10, .int (nI (oS s).length)), (9, .int (nI N)), (8, .ref (ad 6)), (7, .ref (ad 5)), (6, .ref (ad 4)), (5, .ref (ad 3)), (4, .ref (ad 2)), (3, .ref (ad 1)), (2, .ref (ad 0)), (1, .ref x), (0, .ref sb)] rfl (nI_inc f 1 (by decide)) rfl (by decide) dL_law_1681 ?_
                      refine v_goto (tgt := 1566) C dL_law_1684 (by decide) ?_
                      refine v_lvp [0, 4, 1, 5, 6, 7, 8, 9, 10, 11, 12, 13, 14, 15, 16, 17, 18, 19, 20, 21, 22, 23, 24, 25, 26, 27] rfl ?_
                      have hcw : cw (rC s ts) f 4 = cw (rC s ts) f n := cw_end (by omega) hn4
                      have hcl := cw_le (rC s ts) f n
                      exact ih5 (f + 1) mo (by omega) (fun z h0 h1 h2 => by
                            by_cases y : z = f
                            · subst y; omega
                            · exact hm1 z (by omega) h1 h2) (hm2.imp id (fun ⟨z, a, b⟩ => ⟨z, by omega, b⟩)) (by omega) (by omega)
                    · have c47 := (nn_le_f (a := (0 + cw (rC s ts) f n)) (b := mo) (by omega) (by omega)).mp c47
                      refine v_iload C 2 rfl dL_law_1656 ?_
                      refine v_iload C 7 rfl dL_law_1658 ?_
                      refine v_icmp_gt (tgt := 1677) C dL_law_1660 (by decide) (fun c49 => ?_) (fun c49 => ?_)
                      · have c49 := (nn_gt (a := f) (b := q) (by omega) (by omega)).mp c49
                        refine v_iload C 4 rfl dL_law_1677 ?_
                        refine v_istore C [(23, .int (nI mo)), (27, .int (nI (f + n))), (26, .int (nI (0 + cw (rC s ts) f n))), (25, .int (nI f)), (24, .int 0), (22, .int (nI (1 + u3))), (21, .int (nI up)), (20, .int (nI q)), (19, .int (nI ts)), (18, .int (nI tm)), (17, .int (nI 16)), (16, .int y0), (15, .int x0), (14, .int (nI t0)), (13, .int (nI (bN s))), (12, .int (nI (rN s))), (11, .int (nI (oN s))), (10, .int (nI (oS s).length)), (9, .int (nI N)), (8, .ref (ad 6)), (7, .ref (ad 5)), (6, .ref (ad 4)), (5, .ref (ad 3)), (4, .ref (ad 2)), (3, .ref (ad 1)), (2, .ref (ad 0)), (1, .ref x), (0, .ref sb)] rfl (by decide) dL_law_1679 ?_
                        refine v_iinc C 3 [(25, .int (nI (f + 1))), (23, .int (nI mo)), (27, .int (nI (f + n))), (26, .int (nI (0 + cw (rC s ts) f n))), (24, .int 0), (22, .int (nI (1 + u3))), (21, .int (nI up)), (20, .int (nI q)), (19, .int (nI ts)), (18, .int (nI tm)), (17, .int (nI 16)), (16, .int y0), (15, .int x0), (14, .int (nI t0)), (13, .int (nI (bN s))), (12, .int (nI (rN s))), (11, .int (nI (oN s))), (10, .int (nI (oS s).length)), (9, .int (nI N)), (8, .ref (ad 6)), (7, .ref (ad 5)), (6, .ref (ad 4)), (5, .ref (ad 3)), (4, .ref (ad 2)), (3, .ref (ad 1)), (2, .ref (ad 0)), (1, .ref x), (0, .ref sb)] rfl (nI_inc f 1 (by decide)) rfl (by decide) dL_law_1681 ?_
                        refine v_goto (tgt := 1566) C dL_law_1684 (by decide) ?_
                        refine v_lvp [0, 4, 1, 5, 6, 7, 8, 9, 10, 11, 12, 13, 14, 15, 16, 17, 18, 19, 20, 21, 22, 23, 24, 25, 26, 27] rfl ?_
                        have hcw : cw (rC s ts) f 4 = cw (rC s ts) f n := cw_end (by omega) hn4
                        have hcl := cw_le (rC s ts) f n
                        exact ih5 (f + 1) mo (by omega) (fun z h0 h1 h2 => by
                              by_cases y : z = f
                              · subst y; omega
                              · exact hm1 z (by omega) h1 h2) (hm2.imp id (fun ⟨z, a, b⟩ => ⟨z, by omega, b⟩)) (by omega) (by omega)
                      · have c49 := (nn_gt_f (a := f) (b := q) (by omega) (by omega)).mp c49
                        refine v_iload C 7 rfl dL_law_1663 ?_
                        refine v_iload C 2 rfl dL_law_1665 ?_
                        refine v_iconst (v := 4) C dL_law_1667 (by decide) ?_
                        refine v_iadd C dL_law_1668 (v_eqi (nI_adk f 4 (by decide)) ?_)
                        refine v_icmp_ge (tgt := 1677) C dL_law_1669 (by decide) (fun c52 => ?_) (fun c52 => ?_)
                        · have c52 := (nn_ge (a := q) (b := (f + 4)) (by omega) (by omega)).mp c52
                          refine v_iload C 4 rfl dL_law_1677 ?_
                          refine v_istore C [(23, .int (nI mo)), (27, .int (nI (f + n))), (26, .int (nI (0 + cw (rC s ts) f n))), (25, .int (nI f)), (24, .int 0), (22, .int (nI (1 + u3))), (21, .int (nI up)), (20, .int (nI q)), (19, .int (nI ts)), (18, .int (nI tm)), (17, .int (nI 16)), (16, .int y0), (15, .int x0), (14, .int (nI t0)), (13, .int (nI (bN s))), (12, .int (nI (rN s))), (11, .int (nI (oN s))), (10, .int (nI (oS s).length)), (9, .int (nI N)), (8, .ref (ad 6)), (7, .ref (ad 5)), (6, .ref (ad 4)), (5, .ref (ad 3)), (4, .ref (ad 2)), (3, .ref (ad 1)), (2, .ref (ad 0)), (1, .ref x), (0, .ref sb)] rfl (by decide) dL_law_1679 ?_
                          refine v_iinc C 3 [(25, .int (nI (f + 1))), (23, .int (nI mo)), (27, .int (nI (f + n))), (26, .int (nI (0 + cw (rC s ts) f n))), (24, .int 0), (22, .int (nI (1 + u3))), (21, .int (nI up)), (20, .int (nI q)), (19, .int (nI ts)), (18, .int (nI tm)), (17, .int (nI 16)), (16, .int y0), (15, .int x0), (14, .int (nI t0)), (13, .int (nI (bN s))), (12, .int (nI (rN s))), (11, .int (nI (oN s))), (10, .int (nI (oS s).length)), (9, .int (nI N)), (8, .ref (ad 6)), (7, .ref (ad 5)), (6, .ref (ad 4)), (5, .ref (ad 3)), (4, .ref (ad 2)), (3, .ref (ad 1)), (2, .ref (ad 0)), (1, .ref x), (0, .ref sb)] rfl (nI_inc f 1 (by decide)) rfl (by decide) dL_law_1681 ?_
                          refine v_goto (tgt := 1566) C dL_law_1684 (by decide) ?_
                          refine v_lvp [0, 4, 1, 5, 6, 7, 8, 9, 10, 11, 12, 13, 14, 15, 16, 17, 18, 19, 20, 21, 22, 23, 24, 25, 26, 27] rfl ?_
                          have hcw : cw (rC s ts) f 4 = cw (rC s ts) f n := cw_end (by omega) hn4
                          have hcl := cw_le (rC s ts) f n
                          exact ih5 (f + 1) mo (by omega) (fun z h0 h1 h2 => by
                                by_cases y : z = f
                                · subst y; omega
                                · exact hm1 z (by omega) h1 h2) (hm2.imp id (fun ⟨z, a, b⟩ => ⟨z, by omega, b⟩)) (by omega) (by omega)
                        · have c52 := (nn_ge_f (a := q) (b := (f + 4)) (by omega) (by omega)).mp c52
                          refine v_iload C 1 rfl dL_law_1672 ?_
                          refine v_goto (tgt := 1679) C dL_law_1674 (by decide) ?_
                          refine v_istore C [(23, .int (nI (0 + cw (rC s ts) f n))), (27, .int (nI (f + n))), (26, .int (nI (0 + cw (rC s ts) f n))), (25, .int (nI f)), (24, .int 0), (22, .int (nI (1 + u3))), (21, .int (nI up)), (20, .int (nI q)), (19, .int (nI ts)), (18, .int (nI tm)), (17, .int (nI 16)), (16, .int y0), (15, .int x0), (14, .int (nI t0)), (13, .int (nI (bN s))), (12, .int (nI (rN s))), (11, .int (nI (oN s))), (10, .int (nI (oS s).length)), (9, .int (nI N)), (8, .ref (ad 6)), (7, .ref (ad 5)), (6, .ref (ad 4)), (5, .ref (ad 3)), (4, .ref (ad 2)), (3, .ref (ad 1)), (2, .ref (ad 0)), (1, .ref x), (0, .ref sb)] rfl (by decide) dL_law_1679 ?_
                          refine v_iinc C 3 [(25, .int (nI (f + 1))), (23, .int (nI (0 + cw (rC s ts) f n))), (27, .int (nI (f + n))), (26, .int (nI (0 + cw (rC s ts) f n))), (24, .int 0), (22, .int (nI (1 + u3))), (21, .int (nI up)), (20, .int (nI q)), (19, .int (nI ts)), (18, .int (nI tm)), (17, .int (nI 16)), (16, .int y0), (15, .int x0), (14, .int (nI t0)), (13, .int (nI (bN s))), (12, .int (nI (rN s))), (11, .int (nI (oN s))), (10, .int (nI (oS s).length)), (9, .int (nI N)), (8, .ref (ad 6)), (7, .ref (ad 5)), (6, .ref (ad 4)), (5, .ref (ad 3)), (4, .ref (ad 2)), (3, .ref (ad 1)), (2, .ref (ad 0)), (1, .ref x), (0, .ref sb)] rfl (nI_inc f 1 (by decide)) rfl (by decide) dL_law_1681 ?_
                          refine v_goto (tgt := 1566) C dL_law_1684 (by decide) ?_
                          refine v_lvp [0, 4, 1, 5, 6, 7, 8, 9, 10, 11, 12, 13, 14, 15, 16, 17, 18, 19, 20, 21, 22, 23, 24, 25, 26, 27] rfl ?_
                          have hcw : cw (rC s ts) f 4 = cw (rC s ts) f n := cw_end (by omega) hn4
                          have hcl := cw_le (rC s ts) f n
                          exact ih5 (f + 1) (0 + cw (rC s ts) f n) (by omega) (fun z h0 h1 h2 => by
                                by_cases y : z = f
                                · subst y; omega
                                · have := hm1 z (by omega) h1 h2; omega) (Or.inl (by omega)) (by omega) (by omega)
                  · have c46 := (nk_ge_f (a := (f + n)) 9 (by decide) (by omega) (by decide)).mp c46
                    refine v_iload C 1 rfl dL_law_1616 ?_
                    refine v_aload C 21 rfl dL_law_1618 ?_
                    refine v_bipush (v := 32) C dL_law_1620 (by decide) ?_
                    refine v_iload C 8 rfl dL_law_1622 ?_
                    refine v_imul C dL_law_1624 (v_eqi (nI_kml ts 32 (by decide)) ?_)
                    refine v_bipush (v := 13) C dL_law_1625 (by decide) ?_
                    refine v_iadd C dL_law_1627 (v_eqi (nI_adk (32 * ts) 13 (by decide)) ?_)
                    refine v_iload C 0 rfl dL_law_1628 ?_
                    refine v_iadd C dL_law_1630 (v_eqi (nI_add ((32 * ts) + 13) (f + n)) ?_)
                    refine v_iald C (lx.1.2.2.2.2.1) (vpin (show 32 * ts + 13 + (f + n) < 64 by omega) (by decide)) dL_law_1631 (v_eqi (y := (rC s ts ((f + n)))) ((congrArg B (nI_clamp (show 32 * ts + 13 + (f + n) < 2 ^ 31 by omega))).trans ((hEc ((f + n)) (by omega)).1)) ?_)
                    refine v_if_le (tgt := 1639) C dL_law_1632 (by decide) (fun c58 => ?_) (fun c58 => ?_)
                    · refine v_iconst (v := 0) C dL_law_1639 (by decide) ?_
                      refine v_iadd C dL_law_1640 (v_eqi (y := (nI (0 + cw (rC s ts) f (n + 1)))) ((nI_adk _ 0 (by decide)).trans (congrArg nI (show 0 + cw (rC s ts) f n + 0 = 0 + cw (rC s ts) f (n + 1) by rw [← cw_st (fun z => absurd ((rC_sgn ((hrQ (f + n) (by omega)).2)).mpr z.2) (Int32.not_lt.mpr c58))]; rfl))) ?_)
                      refine v_istore C [(26, .int (nI (0 + cw (rC s ts) f (n + 1)))), (27, .int (nI (f + n))), (25, .int (nI f)), (24, .int 0), (23, .int (nI mo)), (22, .int (nI (1 + u3))), (21, .int (nI up)), (20, .int (nI q)), (19, .int (nI ts)), (18, .int (nI tm)), (17, .int (nI 16)), (16, .int y0), (15, .int x0), (14, .int (nI t0)), (13, .int (nI (bN s))), (12, .int (nI (rN s))), (11, .int (nI (oN s))), (10, .int (nI (oS s).length)), (9, .int (nI N)), (8, .ref (ad 6)), (7, .ref (ad 5)), (6, .ref (ad 4)), (5, .ref (ad 3)), (4, .ref (ad 2)), (3, .ref (ad 1)), (2, .ref (ad 0)), (1, .ref x), (0, .ref sb)] rfl (by decide) dL_law_1641 ?_
                      refine v_iinc C 1 [(27, .int (nI ((f + n) + 1))), (26, .int (nI (0 + cw (rC s ts) f (n + 1)))), (25, .int (nI f)), (24, .int 0), (23, .int (nI mo)), (22, .int (nI (1 + u3))), (21, .int (nI up)), (20, .int (nI q)), (19, .int (nI ts)), (18, .int (nI tm)), (17, .int (nI 16)), (16, .int y0), (15, .int x0), (14, .int (nI t0)), (13, .int (nI (bN s))), (12, .int (nI (rN s))), (11, .int (nI (oN s))), (10, .int (nI (oS s).length)), (9, .int (nI N)), (8, .ref (ad 6)), (7, .ref (ad 5)), (6, .ref (ad 4)), (5, .ref (ad 3)), (4, .ref (ad 2)), (3, .ref (ad 1)), (2, .ref (ad 0)), (1, .ref x), (0, .ref sb)] rfl (nI_inc (f + n) 1 (by decide)) rfl (by decide) dL_law_1643 ?_
                      refine v_goto (tgt := 1600) C dL_law_1646 (by decide) ?_
                      refine v_lvp [0, 1, 2, 3, 4, 5, 6, 7, 8, 9, 10, 11, 12, 13, 14, 15, 16, 17, 18, 19, 20, 21, 22, 23, 24, 25, 26, 27] rfl ?_
                      exact ih35 (n + 1) (by omega) (by omega)
                    · refine v_iconst (v := 1) C dL_law_1635 (by decide) ?_
                      refine v_goto (tgt := 1640) C dL_law_1636 (by decide) ?_
                      refine v_iadd C dL_law_1640 (v_eqi (y := (nI (0 + cw (rC s ts) f (n + 1)))) ((nI_adk _ 1 (by decide)).trans (congrArg nI (show 0 + cw (rC s ts) f n + 1 = 0 + cw (rC s ts) f (n + 1) by rw [← cw_up ⟨by omega, (rC_sgn ((hrQ (f + n) (by omega)).2)).mp (Int32.not_le.mp c58)⟩]; omega))) ?_)
                      refine v_istore C [(26, .int (nI (0 + cw (rC s ts) f (n + 1)))), (27, .int (nI (f + n))), (25, .int (nI f)), (24, .int 0), (23, .int (nI mo)), (22, .int (nI (1 + u3))), (21, .int (nI up)), (20, .int (nI q)), (19, .int (nI ts)), (18, .int (nI tm)), (17, .int (nI 16)), (16, .int y0), (15, .int x0), (14, .int (nI t0)), (13, .int (nI (bN s))), (12, .int (nI (rN s))), (11, .int (nI (oN s))), (10, .int (nI (oS s).length)), (9, .int (nI N)), (8, .ref (ad 6)), (7, .ref (ad 5)), (6, .ref (ad 4)), (5, .ref (ad 3)), (4, .ref (ad 2)), (3, .ref (ad 1)), (2, .ref (ad 0)), (1, .ref x), (0, .ref sb)] rfl (by decide) dL_law_1641 ?_
                      refine v_iinc C 1 [(27, .int (nI ((f + n) + 1))), (26, .int (nI (0 + cw (rC s ts) f (n + 1)))), (25, .int (nI f)), (24, .int 0), (23, .int (nI mo)), (22, .int (nI (1 + u3))), (21, .int (nI up)), (20, .int (nI q)), (19, .int (nI ts)), (18, .int (nI tm)), (17, .int (nI 16)), (16, .int y0), (15, .int x0), (14, .int (nI t0)), (13, .int (nI (bN s))), (12, .int (nI (rN s))), (11, .int (nI (oN s))), (10, .int (nI (oS s).length)), (9, .int (nI N)), (8, .ref (ad 6)), (7, .ref (ad 5)), (6, .ref (ad 4)), (5, .ref (ad 3)), (4, .ref (ad 2)), (3, .ref (ad 1)), (2, .ref (ad 0)), (1, .ref x), (0, .ref sb)] rfl (nI_inc (f + n) 1 (by decide)) rfl (by decide) dL_law_1643 ?_
                      refine v_goto (tgt := 1600) C dL_law_1646 (by decide) ?_
                      refine v_lvp [0, 1, 2, 3, 4, 5, 6, 7, 8, 9, 10, 11, 12, 13, 14, 15, 16, 17, 18, 19, 20, 21, 22, 23, 24, 25, 26, 27] rfl ?_
                      exact ih35 (n + 1) (by omega) (by omega)
            refine v_lvp [0, 1, 2, 3, 4, 5, 6, 7, 8, 9, 10, 11, 12, 13, 14, 15, 16, 17, 18, 19, 20, 21, 22, 23, 24, 25, 26, 27] rfl ?_
            exact L35 5 0 (Nat.zero_le _) (by omega)
          · have c34 := (nn_gt_f (a := f) (b := q) (by omega) (by omega)).mp c34
            refine v_iload C 5 rfl dL_law_1580 ?_
            refine v_iload C 0 rfl dL_law_1582 ?_
            refine v_iconst (v := 4) C dL_law_1584 (by decide) ?_
            refine v_iadd C dL_law_1585 (v_eqi (nI_adk f 4 (by decide)) ?_)
            refine v_icmp_ge (tgt := 1593) C dL_law_1586 (by decide) (fun c64 => ?_) (fun c64 => ?_)
            · have c64 := (nn_ge (a := q) (b := (f + 4)) (by omega) (by omega)).mp c64
              refine v_iconst (v := 0) C dL_law_1593 (by decide) ?_
              refine v_istore C [(26, .int 0), (25, .int (nI f)), (24, .int 0), (23, .int (nI mo)), (22, .int (nI (1 + u3))), (21, .int (nI up)), (20, .int (nI q)), (19, .int (nI ts)), (18, .int (nI tm)), (17, .int (nI 16)), (16, .int y0), (15, .int x0), (14, .int (nI t0)), (13, .int (nI (bN s))), (12, .int (nI (rN s))), (11, .int (nI (oN s))), (10, .int (nI (oS s).length)), (9, .int (nI N)), (8, .ref (ad 6)), (7, .ref (ad 5)), (6, .ref (ad 4)), (5, .ref (ad 3)), (4, .ref (ad 2)), (3, .ref (ad 1)), (2, .ref (ad 0)), (1, .ref x), (0, .ref sb)] rfl (by decide) dL_law_1594 ?_
              refine v_iload C 1 rfl dL_law_1596 ?_
              refine v_istore C [(27, .int (nI f)), (26, .int 0), (25, .int (nI f)), (24, .int 0), (23, .int (nI mo)), (22, .int (nI (1 + u3))), (21, .int (nI up)), (20, .int (nI q)), (19, .int (nI ts)), (18, .int (nI tm)), (17, .int (nI 16)), (16, .int y0), (15, .int x0), (14, .int (nI t0)), (13, .int (nI (bN s))), (12, .int (nI (rN s))), (11, .int (nI (oN s))), (10, .int (nI (oS s).length)), (9, .int (nI N)), (8, .ref (ad 6)), (7, .ref (ad 5)), (6, .ref (ad 4)), (5, .ref (ad 3)), (4, .ref (ad 2)), (3, .ref (ad 1)), (2, .ref (ad 0)), (1, .ref x), (0, .ref sb)] rfl (by decide) dL_law_1598 ?_
              have L65 : ∀ (d : Nat) (n : Nat), (n ≤ 4) → (4 < n + d) → V zp l ze room_1 zs zm zargs zbelow zmeth zc G 29 Q h (cs + 0) (sl + 0) 1600 [(27, .int (nI (f + n))), (26, .int (nI (0 + cw (rC s ts) f n))), (25, .int (nI f)), (24, .int 0), (23, .int (nI mo)), (22, .int (nI (1 + u3))), (21, .int (nI up)), (20, .int (nI q)), (19, .int (nI ts)), (18, .int (nI tm)), (17, .int (nI 16)), (16, .int y0), (15, .int x0), (14, .int (nI t0)), (13, .int (nI (bN s))), (12, .int (nI (rN s))), (11, .int (nI (oN s))), (10, .int (nI (oS s).length)), (9, .int (nI N)), (8, .ref (ad 6)), (7, .ref (ad 5)), (6, .ref (ad 4)), (5, .ref (ad 3)), (4, .ref (ad 2)), (3, .ref (ad 1)), (2, .ref (ad 0)), (1, .ref x), (0, .ref sb)] [] := by
                intro d
                induction d with
                | zero =>
                  intro n hn4 hd
                  exact absurd hd (by omega)
                | succ d ih65 =>
                  intro n hn4 hd
                  refine v_iload C 0 rfl dL_law_1600 ?_
                  refine v_iload C 2 rfl dL_law_1602 ?_
                  refine v_iconst (v := 4) C dL_law_1604 (by decide) ?_
                  refine v_iadd C dL_law_1605 (v_eqi (nI_adk f 4 (by decide)) ?_)
                  refine v_icmp_ge (tgt := 1649) C dL_law_1606 (by decide) (fun c67 => ?_) (fun c67 => ?_)
                  · have c67 := (nn_ge (a := (f + n)) (b := (f + 4)) (by omega) (by omega)).mp c67
                    have hcl0 := cw_le (rC s ts) f n
                    refine v_iload C 1 rfl dL_law_1649 ?_
                    refine v_iload C 4 rfl dL_law_1651 ?_
                    refine v_icmp_le (tgt := 1677) C dL_law_1653 (by decide) (fun c68 => ?_) (fun c68 => ?_)
                    · have c68 := (nn_le (a := (0 + cw (rC s ts) f n)) (b := mo) (by omega) (by omega)).mp c68
                      refine v_iload C 4 rfl dL_law_1677 ?_
                      refine v_istore C [(23, .int (nI mo)), (27, .int (nI (f + n))), (26, .int (nI (0 + cw (rC s ts) f n))), (25, .int (nI f)), (24, .int 0), (22, .int (nI (1 + u3))), (21, .int (nI up)), (20, .int (nI q)), (19, .int (nI ts)), (18, .int (nI tm)), (17, .int (nI 16)), (16, .int y0), (15, .int x0), (14, .int (nI t0)), (13, .int (nI (bN s))), (12, .int (nI (rN s))), (11, .int (nI (oN s))), (10, .int (nI (oS s).length)), (9, .int (nI N)), (8, .ref (ad 6)), (7, .ref (ad 5)), (6, .ref (ad 4)), (5, .ref (ad 3)), (4, .ref (ad 2)), (3, .ref (ad 1)), (2, .ref (ad 0)), (1, .ref x), (0, .ref sb)] rfl (by decide) dL_law_1679 ?_
                      refine v_iinc C 3 [(25, .int (nI (f + 1))), (23, .int (nI mo)), (27, .int (nI (f + n))), (26, .int (nI (0 + cw (rC s ts) f n))), (24, .int 0), (22, .int (nI (1 + u3))), (21, .int (nI up)), (20, .int (nI q)), (19, .int (nI ts)), (18, .int (nI tm)), (17, .int (nI 16)), (16, .int y0), (15, .int x0), (14, .int (nI t0)), (13, .int (nI (bN s))), (12, .int (nI (rN s))), (11, .int (nI (oN s))), (10, .int (nI (oS s).length)), (9, .int (nI N)), (8, .ref (ad 6)), (7, .ref (ad 5)), (6, .ref (ad 4)), (5, .ref (ad 3)), (4, .ref (ad 2)), (3, .ref (ad 1)), (2, .ref (ad 0)), (1, .ref x), (0, .ref sb)] rfl (nI_inc f 1 (by decide)) rfl (by decide) dL_law_1681 ?_
                      refine v_goto (tgt := 1566) C dL_law_1684 (by decide) ?_
                      refine v_lvp [0, 4, 1, 5, 6, 7, 8, 9, 10, 11, 12, 13, 14, 15, 16, 17, 18, 19, 20, 21, 22, 23, 24, 25, 26, 27] rfl ?_
                      have hcw : cw (rC s ts) f 4 = cw (rC s ts) f n := (by rw [show n = 4 by omega])
                      have hcl := cw_le (rC s ts) f n
                      exact ih5 (f + 1) mo (by omega) (fun z h0 h1 h2 => by
                            by_cases y : z = f
                            · subst y; omega
                            · exact hm1 z (by omega) h1 h2) (hm2.imp id (fun ⟨z, a, b⟩ => ⟨z, by omega, b⟩)) (by omega) (by omega)
                    · have c68 := (nn_le_f (a := (0 + cw (rC s ts) f n)) (b := mo) (by omega) (by omega)).mp c68
                      refine v_iload C 2 rfl dL_law_1656 ?_
                      refine v_iload C 7 rfl dL_law_1658 ?_
                      refine v_icmp_gt (tgt := 1677) C dL_law_1660 (by decide) (fun c70 => ?_) (fun c70 => ?_)
                      · have c70 := (nn_gt (a := f) (b := q) (by omega) (by omega)).mp c70
                        refine v_iload C 4 rfl dL_law_1677 ?_
                        refine v_istore C [(23, .int (nI mo)), (27, .int (nI (f + n))), (26, .int (nI (0 + cw (rC s ts) f n))), (25, .int (nI f)), (24, .int 0), (22, .int (nI (1 + u3))), (21, .int (nI up)), (20, .int (nI q)), (19, .int (nI ts)), (18, .int (nI tm)), (17, .int (nI 16)), (16, .int y0), (15, .int x0), (14, .int (nI t0)), (13, .int (nI (bN s))), (12, .int (nI (rN s))), (11, .int (nI (oN s))), (10, .int (nI (oS s).length)), (9, .int (nI N)), (8, .ref (ad 6)), (7, .ref (ad 5)), (6, .ref (ad 4)), (5, .ref (ad 3)), (4, .ref (ad 2)), (3, .ref (ad 1)), (2, .ref (ad 0)), (1, .ref x), (0, .ref sb)] rfl (by decide) dL_law_1679 ?_
                        refine v_iinc C 3 [(25, .int (nI (f + 1))), (23, .int (nI mo)), (27, .int (nI (f + n))), (26, .int (nI (0 + cw (rC s ts) f n))), (24, .int 0), (22, .int (nI (1 + u3))), (21, .int (nI up)), (20, .int (nI q)), (19, .int (nI ts)), (18, .int (nI tm)), (17, .int (nI 16)), (16, .int y0), (15, .int x0), (14, .int (nI t0)), (13, .int (nI (bN s))), (12, .int (nI (rN s))), (11, .int (nI (oN s))), (10, .int (nI (oS s).length)), (9, .int (nI N)), (8, .ref (ad 6)), (7, .ref (ad 5)), (6, .ref (ad 4)), (5, .ref (ad 3)), (4, .ref (ad 2)), (3, .ref (ad 1)), (2, .ref (ad 0)), (1, .ref x), (0, .ref sb)] rfl (nI_inc f 1 (by decide)) rfl (by decide) dL_law_1681 ?_
                        refine v_goto (tgt := 1566) C dL_law_1684 (by decide) ?_
                        refine v_lvp [0, 4, 1, 5, 6, 7, 8, 9, 10, 11, 12, 13, 14, 15, 16, 17, 18, 19, 20, 21, 22, 23, 24, 25, 26, 27] rfl ?_
                        have hcw : cw (rC s ts) f 4 = cw (rC s ts) f n := (by rw [show n = 4 by omega])
                        have hcl := cw_le (rC s ts) f n
                        exact ih5 (f + 1) mo (by omega) (fun z h0 h1 h2 => by
                              by_cases y : z = f
                              · subst y; omega
                              · exact hm1 z (by omega) h1 h2) (hm2.imp id (fun ⟨z, a, b⟩ => ⟨z, by omega, b⟩)) (by omega) (by omega)
                      · have c70 := (nn_gt_f (a := f) (b := q) (by omega) (by omega)).mp c70
                        refine v_iload C 7 rfl dL_law_1663 ?_
                        refine v_iload C 2 rfl dL_law_1665 ?_
                        refine v_iconst (v := 4) C dL_law_1667 (by decide) ?_
                        refine v_iadd C dL_law_1668 (v_eqi (nI_adk f 4 (by decide)) ?_)
                        refine v_icmp_ge (tgt := 1677) C dL_law_1669 (by decide) (fun c73 => ?_) (fun c73 => ?_)
                        · have c73 := (nn_ge (a := q) (b := (f + 4)) (by omega) (by omega)).mp c73
                          refine v_iload C 4 rfl dL_law_1677 ?_
                          refine v_istore C [(23, .int (nI mo)), (27, .int (nI (f + n))), (26, .int (nI (0 + cw (rC s ts) f n))), (25, .int (nI f)), (24, .int 0), (22, .int (nI (1 + u3))), (21, .int (nI up)), (20, .int (nI q)), (19, .int (nI ts)), (18, .int (nI tm)), (17, .int (nI 16)), (16, .int y0), (15, .int x0), (14, .int (nI t0)), (13, .int (nI (bN s))), (12, .int (nI (rN s))), (11, .int (nI (oN s))), (10, .int (nI (oS s).length)), (9, .int (nI N)), (8, .ref (ad 6)), (7, .ref (ad 5)), (6, .ref (ad 4)), (5, .ref (ad 3)), (4, .ref (ad 2)), (3, .ref (ad 1)), (2, .ref (ad 0)), (1, .ref x), (0, .ref sb)] rfl (by decide) dL_law_1679 ?_
                          refine v_iinc C 3 [(25, .int (nI (f + 1))), (23, .int (nI mo)), (27, .int (nI (f + n))), (26, .int (nI (0 + cw (rC s ts) f n))), (24, .int 0), (22, .int (nI (1 + u3))), (21, .int (nI up)), (20, .int (nI q)), (19, .int (nI ts)), (18, .int (nI tm)), (17, .int (nI 16)), (16, .int y0), (15, .int x0), (14, .int (nI t0)), (13, .int (nI (bN s))), (12, .int (nI (rN s))), (11, .int (nI (oN s))), (10, .int (nI (oS s).length)), (9, .int (nI N)), (8, .ref (ad 6)), (7, .ref (ad 5)), (6, .ref (ad 4)), (5, .ref (ad 3)), (4, .ref (ad 2)), (3, .ref (ad 1)), (2, .ref (ad 0)), (1, .ref x), (0, .ref sb)] rfl (nI_inc f 1 (by decide)) rfl (by decide) dL_law_1681 ?_
                          refine v_goto (tgt := 1566) C dL_law_1684 (by decide) ?_
                          refine v_lvp [0, 4, 1, 5, 6, 7, 8, 9, 10, 11, 12, 13, 14, 15, 16, 17, 18, 19, 20, 21, 22, 23, 24, 25, 26, 27] rfl ?_
                          have hcw : cw (rC s ts) f 4 = cw (rC s ts) f n := (by rw [show n = 4 by omega])
                          have hcl := cw_le (rC s ts) f n
                          exact ih5 (f + 1) mo (by omega) (fun z h0 h1 h2 => by
                                by_cases y : z = f
                                · subst y; omega
                                · exact hm1 z (by omega) h1 h2) (hm2.imp id (fun ⟨z, a, b⟩ => ⟨z, by omega, b⟩)) (by omega) (by omega)
                        · have c73 := (nn_ge_f (a := q) (b := (f + 4)) (by omega) (by omega)).mp c73
                          refine v_iload C 1 rfl dL_law_1672 ?_
                          refine v_goto (tgt := 1679) C dL_law_1674 (by decide) ?_
                          refine v_istore C [(23, .int (nI (0 + cw (rC s ts) f n))), (27, .int (nI (f + n))), (26, .int (nI (0 + cw (rC s ts) f n))), (25, .int (nI f)), (24, .int 0), (22, .int (nI (1 + u3))), (21, .int (nI up)), (20, .int (nI q)), (19, .int (nI ts)), (18, .int (nI tm)), (17, .int (nI 16)), (16, .int y0), (15, .int x0), (14, .int (nI t0)), (13, .int (nI (bN s))), (12, .int (nI (rN s))), (11, .int (nI (oN s))), (10, .int (nI (oS s).length)), (9, .int (nI N)), (8, .ref (ad 6)), (7, .ref (ad 5)), (6, .ref (ad 4)), (5, .ref (ad 3)), (4, .ref (ad 2)), (3, .ref (ad 1)), (2, .ref (ad 0)), (1, .ref x), (0, .ref sb)] rfl (by decide) dL_law_1679 ?_
                          refine v_iinc C 3 [(25, .int (nI (f + 1))), (23, .int (nI (0 + cw (rC s ts) f n))), (27, .int (nI (f + n))), (26, .int (nI (0 + cw (rC s ts) f n))), (24, .int 0), (22, .int (nI (1 + u3))), (21, .int (nI up)), (20, .int (nI q)), (19, .int (nI ts)), (18, .int (nI tm)), (17, .int (nI 16)), (16, .int y0), (15, .int x0), (14, .int (nI t0)), (13, .int (nI (bN s))), (12, .int (nI (rN s))), (11, .int (nI (oN s))), (10, .int (nI (oS s).length)), (9, .int (nI N)), (8, .ref (ad 6)), (7, .ref (ad 5)), (6, .ref (ad 4)), (5, .ref (ad 3)), (4, .ref (ad 2)), (3, .ref (ad 1)), (2, .ref (ad 0)), (1, .ref x), (0, .ref sb)] rfl (nI_inc f 1 (by decide)) rfl (by decide) dL_law_1681 ?_
                          refine v_goto (tgt := 1566) C dL_law_1684 (by decide) ?_
                          refine v_lvp [0, 4, 1, 5, 6, 7, 8, 9, 10, 11, 12, 13, 14, 15, 16, 17, 18, 19, 20, 21, 22, 23, 24, 25, 26, 27] rfl ?_
                          have hcw : cw (rC s ts) f 4 = cw (rC s ts) f n := (by rw [show n = 4 by omega])
                          have hcl := cw_le (rC s ts) f n
                          exact ih5 (f + 1) (0 + cw (rC s ts) f n) (by omega) (fun z h0 h1 h2 => by
                                by_cases y : z = f
                                · subst y; omega
                                · have := hm1 z (by omega) h1 h2; omega) (Or.inl (by omega)) (by omega) (by omega)
                  · have c67 := (nn_ge_f (a := (f + n)) (b := (f + 4)) (by omega) (by omega)).mp c67
                    refine v_iload C 0 rfl dL_law_1609 ?_
                    refine v_bipush (v := 9) C dL_law_1611 (by decide) ?_
                    refine v_icmp_ge (tgt := 1649) C dL_law_1613 (by decide) (fun c76 => ?_) (fun c76 => ?_)
                    · have c76 := (nk_ge (a := (f + n)) 9 (by decide) (by omega) (by decide)).mp c76
                      have hcl0 := cw_le (rC s ts) f n
                      refine v_iload C 1 rfl dL_law_1649 ?_
                      refine v_iload C 4 rfl dL_law_1651 ?_
                      refine v_icmp_le (tgt := 1677) C dL_law_1653 (by decide) (fun c77 => ?_) (fun c77 => ?_)
                      · have c77 := (nn_le (a := (0 + cw (rC s ts) f n)) (b := mo) (by omega) (by omega)).mp c77
                        refine v_iload C 4 rfl dL_law_1677 ?_
                        refine v_istore C [(23, .int (nI mo)), (27, .int (nI (f + n))), (26, .int (nI (0 + cw (rC s ts) f n))), (25, .int (nI f)), (24, .int 0), (22, .int (nI (1 + u3))), (21, .int (nI up)), (20, .int (nI q)), (19, .int (nI ts)), (18, .int (nI tm)), (17, .int (nI 16)), (16, .int y0), (15, .int x0), (14, .int (nI t0)), (13, .int (nI (bN s))), (12, .int (nI (rN s))), (11, .int (nI (oN s))), (10, .int (nI (oS s).length)), (9, .int (nI N)), (8, .ref (ad 6)), (7, .ref (ad 5)), (6, .ref (ad 4)), (5, .ref (ad 3)), (4, .ref (ad 2)), (3, .ref (ad 1)), (2, .ref (ad 0)), (1, .ref x), (0, .ref sb)] rfl (by decide) dL_law_1679 ?_
                        refine v_iinc C 3 [(25, .int (nI (f + 1))), (23, .int (nI mo)), (27, .int (nI (f + n))), (26, .int (nI (0 + cw (rC s ts) f n))), (24, .int 0), (22, .int (nI (1 + u3))), (21, .int (nI up)), (20, .int (nI q)), (19, .int (nI ts)), (18, .int (nI tm)), (17, .int (nI 16)), (16, .int y0), (15, .int x0), (14, .int (nI t0)), (13, .int (nI (bN s))), (12, .int (nI (rN s))), (11, .int (nI (oN s))), (10, .int (nI (oS s).length)), (9, .int (nI N)), (8, .ref (ad 6)), (7, .ref (ad 5)), (6, .ref (ad 4)), (5, .ref (ad 3)), (4, .ref (ad 2)), (3, .ref (ad 1)), (2, .ref (ad 0)), (1, .ref x), (0, .ref sb)] rfl (nI_inc f 1 (by decide)) rfl (by decide) dL_law_1681 ?_
                        refine v_goto (tgt := 1566) C dL_law_1684 (by decide) ?_
                        refine v_lvp [0, 4, 1, 5, 6, 7, 8, 9, 10, 11, 12, 13, 14, 15, 16, 17, 18, 19, 20, 21, 22, 23, 24, 25, 26, 27] rfl ?_
                        have hcw : cw (rC s ts) f 4 = cw (rC s ts) f n := cw_end (by omega) hn4
                        have hcl := cw_le (rC s ts) f n
                        exact ih5 (f + 1) mo (by omega) (fun z h0 h1 h2 => by
                              by_cases y : z = f
                              · subst y; omega
                              · exact hm1 z (by omega) h1 h2) (hm2.imp id (fun ⟨z, a, b⟩ => ⟨z, by omega, b⟩)) (by omega) (by omega)
                      · have c77 := (nn_le_f (a := (0 + cw (rC s ts) f n)) (b := mo) (by omega) (by omega)).mp c77
                        refine v_iload C 2 rfl dL_law_1656 ?_
                        refine v_iload C 7 rfl dL_law_1658 ?_
                        refine v_icmp_gt (tgt := 1677) C dL_law_1660 (by decide) (fun c79 => ?_) (fun c79 => ?_)
                        · have c79 := (nn_gt (a := f) (b := q) (by omega) (by omega)).mp c79
                          refine v_iload C 4 rfl dL_law_1677 ?_
                          refine v_istore C [(23, .int (nI mo)), (27, .int (nI (f + n))), (26, .int (nI (0 + cw (rC s ts) f n))), (25, .int (nI f)), (24, .int 0), (22, .int (nI (1 + u3))), (21, .int (nI up)), (20, .int (nI q)), (19, .int (nI ts)), (18, .int (nI tm)), (17, .int (nI 16)), (16, .int y0), (15, .int x0), (14, .int (nI t0)), (13, .int (nI (bN s))), (12, .int (nI (rN s))), (11, .int (nI (oN s))), (10, .int (nI (oS s).length)), (9, .int (nI N)), (8, .ref (ad 6)), (7, .ref (ad 5)), (6, .ref (ad 4)), (5, .ref (ad 3)), (4, .ref (ad 2)), (3, .ref (ad 1)), (2, .ref (ad 0)), (1, .ref x), (0, .ref sb)] rfl (by decide) dL_law_1679 ?_
                          refine v_iinc C 3 [(25, .int (nI (f + 1))), (23, .int (nI mo)), (27, .int (nI (f + n))), (26, .int (nI (0 + cw (rC s ts) f n))), (24, .int 0), (22, .int (nI (1 + u3))), (21, .int (nI up)), (20, .int (nI q)), (19, .int (nI ts)), (18, .int (nI tm)), (17, .int (nI 16)), (16, .int y0), (15, .int x0), (14, .int (nI t0)), (13, .int (nI (bN s))), (12, .int (nI (rN s))), (11, .int (nI (oN s))), (10, .int (nI (oS s).length)), (9, .int (nI N)), (8, .ref (ad 6)), (7, .ref (ad 5)), (6, .ref (ad 4)), (5, .ref (ad 3)), (4, .ref (ad 2)), (3, .ref (ad 1)), (2, .ref (ad 0)), (1, .ref x), (0, .ref sb)] rfl (nI_inc f 1 (by decide)) rfl (by decide) dL_law_1681 ?_
                          refine v_goto (tgt := 1566) C dL_law_1684 (by decide) ?_
                          refine v_lvp [0, 4, 1, 5, 6, 7, 8, 9, 10, 11, 12, 13, 14, 15, 16, 17, 18, 19, 20, 21, 22, 23, 24, 25, 26, 27] rfl ?_
                          have hcw : cw (rC s ts) f 4 = cw (rC s ts) f n := cw_end (by omega) hn4
                          have hcl := cw_le (rC s ts) f n
                          exact ih5 (f + 1) mo (by omega) (fun z h0 h1 h2 => by
                                by_cases y : z = f
                                · subst y; omega
                                · exact hm1 z (by omega) h1 h2) (hm2.imp id (fun ⟨z, a, b⟩ => ⟨z, by omega, b⟩)) (by omega) (by omega)
                        · have c79 := (nn_gt_f (a := f) (b := q) (by omega) (by omega)).mp c79
                          refine v_iload C 7 rfl dL_law_1663 ?_
                          refine v_iload C 2 rfl dL_law_1665 ?_
                          refine v_iconst (v := 4) C dL_law_1667 (by decide) ?_
                          refine v_iadd C dL_law_1668 (v_eqi (nI_adk f 4 (by decide)) ?_)
                          refine v_icmp_ge (tgt := 1677) C dL_law_1669 (by decide) (fun c82 => ?_) (fun c82 => ?_)
                          · have c82 := (nn_ge (a := q) (b := (f + 4)) (by omega) (by omega)).mp c82
                            refine v_iload C 4 rfl dL_law_1677 ?_
                            refine v_istore C [(23, .int (nI mo)), (27, .int (nI (f + n))), (26, .int (nI (0 + cw (rC s ts) f n))), (25, .int (nI f)), (24, .int 0), (22, .int (nI (1 + u3))), (21, .int (nI up)), (20, .int (nI q)), (19, .int (nI ts)), (18, .int (nI tm)), (17, .int (nI 16)), (16, .int y0), (15, .int x0), (14, .int (nI t0)), (13, .int (nI (bN s))), (12, .int (nI (rN s))), (11, .int (nI (oN s))), (10, .int (nI (oS s).length)), (9, .int (nI N)), (8, .ref (ad 6)), (7, .ref (ad 5)), (6, .ref (ad 4)), (5, .ref (ad 3)), (4, .ref (ad 2)), (3, .ref (ad 1)), (2, .ref (ad 0)), (1, .ref x), (0, .ref sb)] rfl (by decide) dL_law_1679 ?_
                            refine v_iinc C 3 [(25, .int (nI (f + 1))), (23, .int (nI mo)), (27, .int (nI (f + n))), (26, .int (nI (0 + cw (rC s ts) f n))), (24, .int 0), (22, .int (nI (1 + u3))), (21, .int (nI up)), (20, .int (nI q)), (19, .int (nI ts)), (18, .int (nI tm)), (17, .int (nI 16)), (16, .int y0), (15, .int x0), (14, .int (nI t0)), (13, .int (nI (bN s))), (12, .int (nI (rN s))), (11, .int (nI (oN s))), (10, .int (nI (oS s).length)), (9, .int (nI N)), (8, .ref (ad 6)), (7, .ref (ad 5)), (6, .ref (ad 4)), (5, .ref (ad 3)), (4, .ref (ad 2)), (3, .ref (ad 1)), (2, .ref (ad 0)), (1, .ref x), (0, .ref sb)] rfl (nI_inc f 1 (by decide)) rfl (by decide) dL_law_1681 ?_
                            refine v_goto (tgt := 1566) C dL_law_1684 (by decide) ?_
                            refine v_lvp [0, 4, 1, 5, 6, 7, 8, 9, 10, 11, 12, 13, 14, 15, 16, 17, 18, 19, 20, 21, 22, 23, 24, 25, 26, 27] rfl ?_
                            have hcw : cw (rC s ts) f 4 = cw (rC s ts) f n := cw_end (by omega) hn4
                            have hcl := cw_le (rC s ts) f n
                            exact ih5 (f + 1) mo (by omega) (fun z h0 h1 h2 => by
                                  by_cases y : z = f
                                  · subst y; omega
                                  · exact hm1 z (by omega) h1 h2) (hm2.imp id (fun ⟨z, a, b⟩ => ⟨z, by omega, b⟩)) (by omega) (by omega)
                          · have c82 := (nn_ge_f (a := q) (b := (f + 4)) (by omega) (by omega)).mp c82
                            refine v_iload C 1 rfl dL_law_1672 ?_
                            refine v_goto (tgt := 1679) C dL_law_1674 (by decide) ?_
                            refine v_istore C [(23, .int (nI (0 + cw (rC s ts) f n))), (27, .int (nI (f + n))), (26, .int (nI (0 + cw (rC s ts) f n))), (25, .int (nI f)), (24, .int 0), (22, .int (nI (1 + u3))), (21, .int (nI up)), (20, .int (nI q)), (19, .int (nI ts)), (18, .int (nI tm)), (17, .int (nI 16)), (16, .int y0), (15, .int x0), (14, .int (nI t0)), (13, .int (nI (bN s))), (12, .int (nI (rN s))), (11, .int (nI (oN s))), (10, .int (nI (oS s).length)), (9, .int (nI N)), (8, .ref (ad 6)), (7, .ref (ad 5)), (6, .ref (ad 4)), (5, .ref (ad 3)), (4, .ref (ad 2)), (3, .ref (ad 1)), (2, .ref (ad 0)), (1, .ref x), (0, .ref sb)] rfl (by decide) dL_law_1679 ?_
                            refine v_iinc C 3 [(25, .int (nI (f + 1))), (23, .int (nI (0 + cw (rC s ts) f n))), (27, .int (nI (f + n))), (26, .int (nI (0 + cw (rC s ts) f n))), (24, .int 0), (22, .int (nI (1 + u3))), (21, .int (nI up)), (20, .int (nI q)), (19, .int (nI ts)), (18, .int (nI tm)), (17, .int (nI 16)), (16, .int y0), (15, .int x0), (14, .int (nI t0)), (13, .int (nI (bN s))), (12, .int (nI (rN s))), (11, .int (nI (oN s))), (10, .int (nI (oS s).length)), (9, .int (nI N)), (8, .ref (ad 6)), (7, .ref (ad 5)), (6, .ref (ad 4)), (5, .ref (ad 3)), (4, .ref (ad 2)), (3, .ref (ad 1)), (2, .ref (ad 0)), (1, .ref x), (0, .ref sb)] rfl (nI_inc f 1 (by decide)) rfl (by decide) dL_law_1681 ?_
                            refine v_goto (tgt := 1566) C dL_law_1684 (by decide) ?_
                            refine v_lvp [0, 4, 1, 5, 6, 7, 8, 9, 10, 11, 12, 13, 14, 15, 16, 17, 18, 19, 20, 21, 22, 23, 24, 25, 26, 27] rfl ?_
                            have hcw : cw (rC s ts) f 4 = cw (rC s ts) f n := cw_end (by omega) hn4
                            have hcl := cw_le (rC s ts) f n
                            exact ih5 (f + 1) (0 + cw (rC s ts) f n) (by omega) (fun z h0 h1 h2 => by
                                  by_cases y : z = f
                                  · subst y; omega
                                  · have := hm1 z (by omega) h1 h2; omega) (Or.inl (by omega)) (by omega) (by omega)
                    · have c76 := (nk_ge_f (a := (f + n)) 9 (by decide) (by omega) (by decide)).mp c76
                      refine v_iload C 1 rfl dL_law_1616 ?_
                      refine v_aload C 21 rfl dL_law_1618 ?_
                      refine v_bipush (v := 32) C dL_law_1620 (by decide) ?_
                      refine v_iload C 8 rfl dL_law_1622 ?_
                      refine v_imul C dL_law_1624 (v_eqi (nI_kml ts 32 (by decide)) ?_)
                      refine v_bipush (v := 13) C dL_law_1625 (by decide) ?_
                      refine v_iadd C dL_law_1627 (v_eqi (nI_adk (32 * ts) 13 (by decide)) ?_)
                      refine v_iload C 0 rfl dL_law_1628 ?_
                      refine v_iadd C dL_law_1630 (v_eqi (nI_add ((32 * ts) + 13) (f + n)) ?_)
                      refine v_iald C (lx.1.2.2.2.2.1) (vpin (show 32 * ts + 13 + (f + n) < 64 by omega) (by decide)) dL_law_1631 (v_eqi (y := (rC s ts ((f + n)))) ((congrArg B (nI_clamp (show 32 * ts + 13 + (f + n) < 2 ^ 31 by omega))).trans ((hEc ((f + n)) (by omega)).1)) ?_)
                      refine v_if_le (tgt := 1639) C dL_law_1632 (by decide) (fun c88 => ?_) (fun c88 => ?_)
                      · refine v_iconst (v := 0) C dL_law_1639 (by decide) ?_
                        refine v_iadd C dL_law_1640 (v_eqi (y := (nI (0 + cw (rC s ts) f (n + 1)))) ((nI_adk _ 0 (by decide)).trans (congrArg nI (show 0 + cw (rC s ts) f n + 0 = 0 + cw (rC s ts) f (n + 1) by rw [← cw_st (fun z => absurd ((rC_sgn ((hrQ (f + n) (by omega)).2)).mpr z.2) (Int32.not_lt.mpr c88))]; rfl))) ?_)
                        refine v_istore C [(26, .int (nI (0 + cw (rC s ts) f (n + 1)))), (27, .int (nI (f + n))), (25, .int (nI f)), (24, .int 0), (23, .int (nI mo)), (22, .int (nI (1 + u3))), (21, .int (nI up)), (20, .int (nI q)), (19, .int (nI ts)), (18, .int (nI tm)), (17, .int (nI 16)), (16, .int y0), (15, .int x0), (14, .int (nI t0)), (13, .int (nI (bN s))), (12, .int (nI (rN s))), (11, .int (nI (oN s))), (10, .int (nI (oS s).length)), (9, .int (nI N)), (8, .ref (ad 6)), (7, .ref (ad 5)), (6, .ref (ad 4)), (5, .ref (ad 3)), (4, .ref (ad 2)), (3, .ref (ad 1)), (2, .ref (ad 0)), (1, .ref x), (0, .ref sb)] rfl (by decide) dL_law_1641 ?_
                        refine v_iinc C 1 [(27, .int (nI ((f + n) + 1))), (26, .int (nI (0 + cw (rC s ts) f (n + 1)))), (25, .int (nI f)), (24, .int 0), (23, .int (nI mo)), (22, .int (nI (1 + u3))), (21, .int (nI up)), (20, .int (nI q)), (19, .int (nI ts)), (18, .int (nI tm)), (17, .int (nI 16)), (16, .int y0), (15, .int x0), (14, .int (nI t0)), (13, .int (nI (bN s))), (12, .int (nI (rN s))), (11, .int (nI (oN s))), (10, .int (nI (oS s).length)), (9, .int (nI N)), (8, .ref (ad 6)), (7, .ref (ad 5)), (6, .ref (ad 4)), (5, .ref (ad 3)), (4, .ref (ad 2)), (3, .ref (ad 1)), (2, .ref (ad 0)), (1, .ref x), (0, .ref sb)] rfl (nI_inc (f + n) 1 (by decide)) rfl (by decide) dL_law_1643 ?_
                        refine v_goto (tgt := 1600) C dL_law_1646 (by decide) ?_
                        refine v_lvp [0, 1, 2, 3, 4, 5, 6, 7, 8, 9, 10, 11, 12, 13, 14, 15, 16, 17, 18, 19, 20, 21, 22, 23, 24, 25, 26, 27] rfl ?_
                        exact ih65 (n + 1) (by omega) (by omega)
                      · refine v_iconst (v := 1) C dL_law_1635 (by decide) ?_
                        refine v_goto (tgt := 1640) C dL_law_1636 (by decide) ?_
                        refine v_iadd C dL_law_1640 (v_eqi (y := (nI (0 + cw (rC s ts) f (n + 1)))) ((nI_adk _ 1 (by decide)).trans (congrArg nI (show 0 + cw (rC s ts) f n + 1 = 0 + cw (rC s ts) f (n + 1) by rw [← cw_up ⟨by omega, (rC_sgn ((hrQ (f + n) (by omega)).2)).mp (Int32.not_le.mp c88)⟩]; omega))) ?_)
                        refine v_istore C [(26, .int (nI (0 + cw (rC s ts) f (n + 1)))), (27, .int (nI (f + n))), (25, .int (nI f)), (24, .int 0), (23, .int (nI mo)), (22, .int (nI (1 + u3))), (21, .int (nI up)), (20, .int (nI q)), (19, .int (nI ts)), (18, .int (nI tm)), (17, .int (nI 16)), (16, .int y0), (15, .int x0), (14, .int (nI t0)), (13, .int (nI (bN s))), (12, .int (nI (rN s))), (11, .int (nI (oN s))), (10, .int (nI (oS s).length)), (9, .int (nI N)), (8, .ref (ad 6)), (7, .ref (ad 5)), (6, .ref (ad 4)), (5, .ref (ad 3)), (4, .ref (ad 2)), (3, .ref (ad 1)), (2, .ref (ad 0)), (1, .ref x), (0, .ref sb)] rfl (by decide) dL_law_1641 ?_
                        refine v_iinc C 1 [(27, .int (nI ((f + n) + 1))), (26, .int (nI (0 + cw (rC s ts) f (n + 1)))), (25, .int (nI f)), (24, .int 0), (23, .int (nI mo)), (22, .int (nI (1 + u3))), (21, .int (nI up)), (20, .int (nI q)), (19, .int (nI ts)), (18, .int (nI tm)), (17, .int (nI 16)), (16, .int y0), (15, .int x0), (14, .int (nI t0)), (13, .int (nI (bN s))), (12, .int (nI (rN s))), (11, .int (nI (oN s))), (10, .int (nI (oS s).length)), (9, .int (nI N)), (8, .ref (ad 6)), (7, .ref (ad 5)), (6, .ref (ad 4)), (5, .ref (ad 3)), (4, .ref (ad 2)), (3, .ref (ad 1)), (2, .ref (ad 0)), (1, .ref x), (0, .ref sb)] rfl (nI_inc (f + n) 1 (by decide)) rfl (by decide) dL_law_1643 ?_
                        refine v_goto (tgt := 1600) C dL_law_1646 (by decide) ?_
                        refine v_lvp [0, 1, 2, 3, 4, 5, 6, 7, 8, 9, 10, 11, 12, 13, 14, 15, 16, 17, 18, 19, 20, 21, 22, 23, 24, 25, 26, 27] rfl ?_
                        exact ih65 (n + 1) (by omega) (by omega)
              refine v_lvp [0, 1, 2, 3, 4, 5, 6, 7, 8, 9, 10, 11, 12, 13, 14, 15, 16, 17, 18, 19, 20, 21, 22, 23, 24, 25, 26, 27] rfl ?_
              exact L65 5 0 (Nat.zero_le _) (by omega)
            · have c64 := (nn_ge_f (a := q) (b := (f + 4)) (by omega) (by omega)).mp c64
              refine v_iconst (v := 1) C dL_law_1589 (by decide) ?_
              refine v_goto (tgt := 1594) C dL_law_1590 (by decide) ?_
              refine v_istore C [(26, .int 1), (25, .int (nI f)), (24, .int 0), (23, .int (nI mo)), (22, .int (nI (1 + u3))), (21, .int (nI up)), (20, .int (nI q)), (19, .int (nI ts)), (18, .int (nI tm)), (17, .int (nI 16)), (16, .int y0), (15, .int x0), (14, .int (nI t0)), (13, .int (nI (bN s))), (12, .int (nI (rN s))), (11, .int (nI (oN s))), (10, .int (nI (oS s).length)), (9, .int (nI N)), (8, .ref (ad 6)), (7, .ref (ad 5)), (6, .ref (ad 4)), (5, .ref (ad 3)), (4, .ref (ad 2)), (3, .ref (ad 1)), (2, .ref (ad 0)), (1, .ref x), (0, .ref sb)] rfl (by decide) dL_law_1594 ?_
              refine v_iload C 1 rfl dL_law_1596 ?_
              refine v_istore C [(27, .int (nI f)), (26, .int 1), (25, .int (nI f)), (24, .int 0), (23, .int (nI mo)), (22, .int (nI (1 + u3))), (21, .int (nI up)), (20, .int (nI q)), (19, .int (nI ts)), (18, .int (nI tm)), (17, .int (nI 16)), (16, .int y0), (15, .int x0), (14, .int (nI t0)), (13, .int (nI (bN s))), (12, .int (nI (rN s))), (11, .int (nI (oN s))), (10, .int (nI (oS s).length)), (9, .int (nI N)), (8, .ref (ad 6)), (7, .ref (ad 5)), (6, .ref (ad 4)), (5, .ref (ad 3)), (4, .ref (ad 2)), (3, .ref (ad 1)), (2, .ref (ad 0)), (1, .ref x), (0, .ref sb)] rfl (by decide) dL_law_1598 ?_
              have L93 : ∀ (d : Nat) (n : Nat), (n ≤ 4) → (4 < n + d) → V zp l ze room_1 zs zm zargs zbelow zmeth zc G 29 Q h (cs + 0) (sl + 0) 1600 [(27, .int (nI (f + n))), (26, .int (nI (1 + cw (rC s ts) f n))), (25, .int (nI f)), (24, .int 0), (23, .int (nI mo)), (22, .int (nI (1 + u3))), (21, .int (nI up)), (20, .int (nI q)), (19, .int (nI ts)), (18, .int (nI tm)), (17, .int (nI 16)), (16, .int y0), (15, .int x0), (14, .int (nI t0)), (13, .int (nI (bN s))), (12, .int (nI (rN s))), (11, .int (nI (oN s))), (10, .int (nI (oS s).length)), (9, .int (nI N)), (8, .ref (ad 6)), (7, .ref (ad 5)), (6, .ref (ad 4)), (5, .ref (ad 3)), (4, .ref (ad 2)), (3, .ref (ad 1)), (2, .ref (ad 0)), (1, .ref x), (0, .ref sb)] [] := by
                intro d
                induction d with
                | zero =>
                  intro n hn4 hd
                  exact absurd hd (by omega)
                | succ d ih93 =>
                  intro n hn4 hd
                  refine v_iload C 0 rfl dL_law_1600 ?_
                  refine v_iload C 2 rfl dL_law_1602 ?_
                  refine v_iconst (v := 4) C dL_law_1604 (by decide) ?_
                  refine v_iadd C dL_law_1605 (v_eqi (nI_adk f 4 (by decide)) ?_)
                  refine v_icmp_ge (tgt := 1649) C dL_law_1606 (by decide) (fun c95 => ?_) (fun c95 => ?_)
                  · have c95 := (nn_ge (a := (f + n)) (b := (f + 4)) (by omega) (by omega)).mp c95
                    have hcl0 := cw_le (rC s ts) f n
                    refine v_iload C 1 rfl dL_law_1649 ?_
                    refine v_iload C 4 rfl dL_law_1651 ?_
                    refine v_icmp_le (tgt := 1677) C dL_law_1653 (by decide) (fun c96 => ?_) (fun c96 => ?_)
                    · have c96 := (nn_le (a := (1 + cw (rC s ts) f n)) (b := mo) (by omega) (by omega)).mp c96
                      refine v_iload C 4 rfl dL_law_1677 ?_
                      refine v_istore C [(23, .int (nI mo)), (27, .int (nI (f + n))), (26, .int (nI (1 + cw (rC s ts) f n))), (25, .int (nI f)), (24, .int 0), (22, .int (nI (1 + u3))), (21, .int (nI up)), (20, .int (nI q)), (19, .int (nI ts)), (18, .int (nI tm)), (17, .int (nI 16)), (16, .int y0), (15, .int x0), (14, .int (nI t0)), (13, .int (nI (bN s))), (12, .int (nI (rN s))), (11, .int (nI (oN s))), (10, .int (nI (oS s).length)), (9, .int (nI N)), (8, .ref (ad 6)), (7, .ref (ad 5)), (6, .ref (ad 4)), (5, .ref (ad 3)), (4, .ref (ad 2)), (3, .ref (ad 1)), (2, .ref (ad 0)), (1, .ref x), (0, .ref sb)] rfl (by decide) dL_law_1679 ?_
                      refine v_iinc C 3 [(25, .int (nI (f + 1))), (23, .int (nI mo)), (27, .int (nI (f + n))), (26, .int (nI (1 + cw (rC s ts) f n))), (24, .int 0), (22, .int (nI (1 + u3))), (21, .int (nI up)), (20, .int (nI q)), (19, .int (nI ts)), (18, .int (nI tm)), (17, .int (nI 16)), (16, .int y0), (15, .int x0), (14, .int (nI t0)), (13, .int (nI (bN s))), (12, .int (nI (rN s))), (11, .int (nI (oN s))), (10, .int (nI (oS s).length)), (9, .int (nI N)), (8, .ref (ad 6)), (7, .ref (ad 5)), (6, .ref (ad 4)), (5, .ref (ad 3)), (4, .ref (ad 2)), (3, .ref (ad 1)), (2, .ref (ad 0)), (1, .ref x), (0, .ref sb)] rfl (nI_inc f 1 (by decide)) rfl (by decide) dL_law_1681 ?_
                      refine v_goto (tgt := 1566) C dL_law_1684 (by decide) ?_
                      refine v_lvp [0, 4, 1, 5, 6, 7, 8, 9, 10, 11, 12, 13, 14, 15, 16, 17, 18, 19, 20, 21, 22, 23, 24, 25, 26, 27] rfl ?_
                      have hcw : cw (rC s ts) f 4 = cw (rC s ts) f n := (by rw [show n = 4 by omega])
                      have hcl := cw_le (rC s ts) f n
                      exact ih5 (f + 1) mo (by omega) (fun z h0 h1 h2 => by
                            by_cases y : z = f
                            · subst y; omega
                            · exact hm1 z (by omega) h1 h2) (hm2.imp id (fun ⟨z, a, b⟩ => ⟨z, by omega, b⟩)) (by omega) (by omega)
                    · have c96 := (nn_le_f (a := (1 + cw (rC s ts) f n)) (b := mo) (by omega) (by omega)).mp c96
                      refine v_iload C 2 rfl dL_law_1656 ?_
                      refine v_iload C 7 rfl dL_law_1658 ?_
                      refine v_icmp_gt (tgt := 1677) C dL_law_1660 (by decide) (fun c98 => ?_) (fun c98 => ?_)
                      · have c98 := (nn_gt (a := f) (b := q) (by omega) (by omega)).mp c98
                        refine v_iload C 4 rfl dL_law_1677 ?_
                        refine v_istore C [(23, .int (nI mo)), (27, .int (nI (f + n))), (26, .int (nI (1 + cw (rC s ts) f n))), (25, .int (nI f)), (24, .int 0), (22, .int (nI (1 + u3))), (21, .int (nI up)), (20, .int (nI q)), (19, .int (nI ts)), (18, .int (nI tm)), (17, .int (nI 16)), (16, .int y0), (15, .int x0), (14, .int (nI t0)), (13, .int (nI (bN s))), (12, .int (nI (rN s))), (11, .int (nI (oN s))), (10, .int (nI (oS s).length)), (9, .int (nI N)), (8, .ref (ad 6)), (7, .ref (ad 5)), (6, .ref (ad 4)), (5, .ref (ad 3)), (4, .ref (ad 2)), (3, .ref (ad 1)), (2, .ref (ad 0)), (1, .ref x), (0, .ref sb)] rfl (by decide) dL_law_1679 ?_
                        refine v_iinc C 3 [(25, .int (nI (f + 1))), (23, .int (nI mo)), (27, .int (nI (f + n))), (26, .int (nI (1 + cw (rC s ts) f n))), (24, .int 0), (22, .int (nI (1 + u3))), (21, .int (nI up)), (20, .int (nI q)), (19, .int (nI ts)), (18, .int (nI tm)), (17, .int (nI 16)), (16, .int y0), (15, .int x0), (14, .int (nI t0)), (13, .int (nI (bN s))), (12, .int (nI (rN s))), (11, .int (nI (oN s))), (10, .int (nI (oS s).length)), (9, .int (nI N)), (8, .ref (ad 6)), (7, .ref (ad 5)), (6, .ref (ad 4)), (5, .ref (ad 3)), (4, .ref (ad 2)), (3, .ref (ad 1)), (2, .ref (ad 0)), (1, .ref x), (0, .ref sb)] rfl (nI_inc f 1 (by decide)) rfl (by decide) dL_law_1681 ?_
                        refine v_goto (tgt := 1566) C dL_law_1684 (by decide) ?_
                        refine v_lvp [0, 4, 1, 5, 6, 7, 8, 9, 10, 11, 12, 13, 14, 15, 16, 17, 18, 19, 20, 21, 22, 23, 24, 25, 26, 27] rfl ?_
                        have hcw : cw (rC s ts) f 4 = cw (rC s ts) f n := (by rw [show n = 4 by omega])
                        have hcl := cw_le (rC s ts) f n
                        exact ih5 (f + 1) mo (by omega) (fun z h0 h1 h2 => by
                              by_cases y : z = f
                              · subst y; omega
                              · exact hm1 z (by omega) h1 h2) (hm2.imp id (fun ⟨z, a, b⟩ => ⟨z, by omega, b⟩)) (by omega) (by omega)
                      · have c98 := (nn_gt_f (a := f) (b := q) (by omega) (by omega)).mp c98
                        refine v_iload C 7 rfl dL_law_1663 ?_
                        refine v_iload C 2 rfl dL_law_1665 ?_
                        refine v_iconst (v := 4) C dL_law_1667 (by decide) ?_
                        refine v_iadd C dL_law_1668 (v_eqi (nI_adk f 4 (by decide)) ?_)
                        refine v_icmp_ge (tgt := 1677) C dL_law_1669 (by decide) (fun c101 => ?_) (fun c101 => ?_)
                        · have c101 := (nn_ge (a := q) (b := (f + 4)) (by omega) (by omega)).mp c101
                          refine v_iload C 4 rfl dL_law_1677 ?_
                          refine v_istore C [(23, .int (nI mo)), (27, .int (nI (f + n))), (26, .int (nI (1 + cw (rC s ts) f n))), (25, .int (nI f)), (24, .int 0), (22, .int (nI (1 + u3))), (21, .int (nI up)), (20, .int (nI q)), (19, .int (nI ts)), (18, .int (nI tm)), (17, .int (nI 16)), (16, .int y0), (15, .int x0), (14, .int (nI t0)), (13, .int (nI (bN s))), (12, .int (nI (rN s))), (11, .int (nI (oN s))), (10, .int (nI (oS s).length)), (9, .int (nI N)), (8, .ref (ad 6)), (7, .ref (ad 5)), (6, .ref (ad 4)), (5, .ref (ad 3)), (4, .ref (ad 2)), (3, .ref (ad 1)), (2, .ref (ad 0)), (1, .ref x), (0, .ref sb)] rfl (by decide) dL_law_1679 ?_
                          refine v_iinc C 3 [(25, .int (nI (f + 1))), (23, .int (nI mo)), (27, .int (nI (f + n))), (26, .int (nI (1 + cw (rC s ts) f n))), (24, .int 0), (22, .int (nI (1 + u3))), (21, .int (nI up)), (20, .int (nI q)), (19, .int (nI ts)), (18, .int (nI tm)), (17, .int (nI 16)), (16, .int y0), (15, .int x0), (14, .int (nI t0)), (13, .int (nI (bN s))), (12, .int (nI (rN s))), (11, .int (nI (oN s))), (10, .int (nI (oS s).length)), (9, .int (nI N)), (8, .ref (ad 6)), (7, .ref (ad 5)), (6, .ref (ad 4)), (5, .ref (ad 3)), (4, .ref (ad 2)), (3, .ref (ad 1)), (2, .ref (ad 0)), (1, .ref x), (0, .ref sb)] rfl (nI_inc f 1 (by decide)) rfl (by decide) dL_law_1681 ?_
                          refine v_goto (tgt := 1566) C dL_law_1684 (by decide) ?_
                          refine v_lvp [0, 4, 1, 5, 6, 7, 8, 9, 10, 11, 12, 13, 14, 15, 16, 17, 18, 19, 20, 21, 22, 23, 24, 25, 26, 27] rfl ?_
                          have hcw : cw (rC s ts) f 4 = cw (rC s ts) f n := (by rw [show n = 4 by omega])
                          have hcl := cw_le (rC s ts) f n
                          exact ih5 (f + 1) mo (by omega) (fun z h0 h1 h2 => by
                                by_cases y : z = f
                                · subst y; omega
                                · exact hm1 z (by omega) h1 h2) (hm2.imp id (fun ⟨z, a, b⟩ => ⟨z, by omega, b⟩)) (by omega) (by omega)
                        · have c101 := (nn_ge_f (a := q) (b := (f + 4)) (by omega) (by omega)).mp c101
                          refine v_iload C 1 rfl dL_law_1672 ?_
                          refine v_goto (tgt := 1679) C dL_law_1674 (by decide) ?_
                          refine v_istore C [(23, .int (nI (1 + cw (rC s ts) f n))), (27, .int (nI (f + n))), (26, .int (nI (1 + cw (rC s ts) f n))), (25, .int (nI f)), (24, .int 0), (22, .int (nI (1 + u3))), (21, .int (nI up)), (20, .int (nI q)), (19, .int (nI ts)), (18, .int (nI tm)), (17, .int (nI 16)), (16, .int y0), (15, .int x0), (14, .int (nI t0)), (13, .int (nI (bN s))), (12, .int (nI (rN s))), (11, .int (nI (oN s))), (10, .int (nI (oS s).length)), (9, .int (nI N)), (8, .ref (ad 6)), (7, .ref (ad 5)), (6, .ref (ad 4)), (5, .ref (ad 3)), (4, .ref (ad 2)), (3, .ref (ad 1)), (2, .ref (ad 0)), (1, .ref x), (0, .ref sb)] rfl (by decide) dL_law_1679 ?_
                          refine v_iinc C 3 [(25, .int (nI (f + 1))), (23, .int (nI (1 + cw (rC s ts) f n))), (27, .int (nI (f + n))), (26, .int (nI (1 + cw (rC s ts) f n))), (24, .int 0), (22, .int (nI (1 + u3))), (21, .int (nI up)), (20, .int (nI q)), (19, .int (nI ts)), (18, .int (nI tm)), (17, .int (nI 16)), (16, .int y0), (15, .int x0), (14, .int (nI t0)), (13, .int (nI (bN s))), (12, .int (nI (rN s))), (11, .int (nI (oN s))), (10, .int (nI (oS s).length)), (9, .int (nI N)), (8, .ref (ad 6)), (7, .ref (ad 5)), (6, .ref (ad 4)), (5, .ref (ad 3)), (4, .ref (ad 2)), (3, .ref (ad 1)), (2, .ref (ad 0)), (1, .ref x), (0, .ref sb)] rfl (nI_inc f 1 (by decide)) rfl (by decide) dL_law_1681 ?_
                          refine v_goto (tgt := 1566) C dL_law_1684 (by decide) ?_
                          refine v_lvp [0, 4, 1, 5, 6, 7, 8, 9, 10, 11, 12, 13, 14, 15, 16, 17, 18, 19, 20, 21, 22, 23, 24, 25, 26, 27] rfl ?_
                          have hcw : cw (rC s ts) f 4 = cw (rC s ts) f n := (by rw [show n = 4 by omega])
                          have hcl := cw_le (rC s ts) f n
                          exact ih5 (f + 1) (1 + cw (rC s ts) f n) (by omega) (fun z h0 h1 h2 => by
                                by_cases y : z = f
                                · subst y; omega
                                · have := hm1 z (by omega) h1 h2; omega) (Or.inr ⟨f, by omega, by omega, by omega, by rw [hcw]⟩) (by omega) (by omega)
                  · have c95 := (nn_ge_f (a := (f + n)) (b := (f + 4)) (by omega) (by omega)).mp c95
                    refine v_iload C 0 rfl dL_law_1609 ?_
                    refine v_bipush (v := 9) C dL_law_1611 (by decide) ?_
                    refine v_icmp_ge (tgt := 1649) C dL_law_1613 (by decide) (fun c104 => ?_) (fun c104 => ?_)
                    · have c104 := (nk_ge (a := (f + n)) 9 (by decide) (by omega) (by decide)).mp c104
                      have hcl0 := cw_le (rC s ts) f n
                      refine v_iload C 1 rfl dL_law_1649 ?_
                      refine v_iload C 4 rfl dL_law_1651 ?_
                      refine v_icmp_le (tgt := 1677) C dL_law_1653 (by decide) (fun c105 => ?_) (fun c105 => ?_)
                      · have c105 := (nn_le (a := (1 + cw (rC s ts) f n)) (b := mo) (by omega) (by omega)).mp c105
                        refine v_iload C 4 rfl dL_law_1677 ?_
                        refine v_istore C [(23, .int (nI mo)), (27, .int (nI (f + n))), (26, .int (nI (1 + cw (rC s ts) f n))), (25, .int (nI f)), (24, .int 0), (22, .int (nI (1 + u3))), (21, .int (nI up)), (20, .int (nI q)), (19, .int (nI ts)), (18, .int (nI tm)), (17, .int (nI 16)), (16, .int y0), (15, .int x0), (14, .int (nI t0)), (13, .int (nI (bN s))), (12, .int (nI (rN s))), (11, .int (nI (oN s))), (10, .int (nI (oS s).length)), (9, .int (nI N)), (8, .ref (ad 6)), (7, .ref (ad 5)), (6, .ref (ad 4)), (5, .ref (ad 3)), (4, .ref (ad 2)), (3, .ref (ad 1)), (2, .ref (ad 0)), (1, .ref x), (0, .ref sb)] rfl (by decide) dL_law_1679 ?_
                        refine v_iinc C 3 [(25, .int (nI (f + 1))), (23, .int (nI mo)), (27, .int (nI (f + n))), (26, .int (nI (1 + cw (rC s ts) f n))), (24, .int 0), (22, .int (nI (1 + u3))), (21, .int (nI up)), (20, .int (nI q)), (19, .int (nI ts)), (18, .int (nI tm)), (17, .int (nI 16)), (16, .int y0), (15, .int x0), (14, .int (nI t0)), (13, .int (nI (bN s))), (12, .int (nI (rN s))), (11, .int (nI (oN s))), (10, .int (nI (oS s).length)), (9, .int (nI N)), (8, .ref (ad 6)), (7, .ref (ad 5)), (6, .ref (ad 4)), (5, .ref (ad 3)), (4, .ref (ad 2)), (3, .ref (ad 1)), (2, .ref (ad 0)), (1, .ref x), (0, .ref sb)] rfl (nI_inc f 1 (by decide)) rfl (by decide) dL_law_1681 ?_
                        refine v_goto (tgt := 1566) C dL_law_1684 (by decide) ?_
                        refine v_lvp [0, 4, 1, 5, 6, 7, 8, 9, 10, 11, 12, 13, 14, 15, 16, 17, 18, 19, 20, 21, 22, 23, 24, 25, 26, 27] rfl ?_
                        have hcw : cw (rC s ts) f 4 = cw (rC s ts) f n := cw_end (by omega) hn4
                        have hcl := cw_le (rC s ts) f n
                        exact ih5 (f + 1) mo (by omega) (fun z h0 h1 h2 => by
                              by_cases y : z = f
                              · subst y; omega
                              · exact hm1 z (by omega) h1 h2) (hm2.imp id (fun ⟨z, a, b⟩ => ⟨z, by omega, b⟩)) (by omega) (by omega)
                      · have c105 := (nn_le_f (a := (1 + cw (rC s ts) f n)) (b := mo) (by omega) (by omega)).mp c105
                        refine v_iload C 2 rfl dL_law_1656 ?_
                        refine v_iload C 7 rfl dL_law_1658 ?_
                        refine v_icmp_gt (tgt := 1677) C dL_law_1660 (by decide) (fun c107 => ?_) (fun c107 => ?_)
                        · have c107 := (nn_gt (a := f) (b := q) (by omega) (by omega)).mp c107
                          refine v_iload C 4 rfl dL_law_1677 ?_
                          refine v_istore C [(23, .int (nI mo)), (27, .int (nI (f + n))), (26, .int (nI (1 + cw (rC s ts) f n))), (25, .int (nI f)), (24, .int 0), (22, .int (nI (1 + u3))), (21, .int (nI up)), (20, .int (nI q)), (19, .int (nI ts)), (18, .int (nI tm)), (17, .int (nI 16)), (16, .int y0), (15, .int x0), (14, .int (nI t0)), (13, .int (nI (bN s))), (12, .int (nI (rN s))), (11, .int (nI (oN s))), (10, .int (nI (oS s).length)), (9, .int (nI N)), (8, .ref (ad 6)), (7, .ref (ad 5)), (6, .ref (ad 4)), (5, .ref (ad 3)), (4, .ref (ad 2)), (3, .ref (ad 1)), (2, .ref (ad 0)), (1, .ref x), (0, .ref sb)] rfl (by decide) dL_law_1679 ?_
                          refine v_iinc C 3 [(25, .int (nI (f + 1))), (23, .int (nI mo)), (27, .int (nI (f + n))), (26, .int (nI (1 + cw (rC s ts) f n))), (24, .int 0), (22, .int (nI (1 + u3))), (21, .int (nI up)), (20, .int (nI q)), (19, .int (nI ts)), (18, .int (nI tm)), (17, .int (nI 16)), (16, .int y0), (15, .int x0), (14, .int (nI t0)), (13, .int (nI (bN s))), (12, .int (nI (rN s))), (11, .int (nI (oN s))), (10, .int (nI (oS s).length)), (9, .int (nI N)), (8, .ref (ad 6)), (7, .ref (ad 5)), (6, .ref (ad 4)), (5, .ref (ad 3)), (4, .ref (ad 2)), (3, .ref (ad 1)), (2, .ref (ad 0)), (1, .ref x), (0, .ref sb)] rfl (nI_inc f 1 (by decide)) rfl (by decide) dL_law_1681 ?_
                          refine v_goto (tgt := 1566) C dL_law_1684 (by decide) ?_
                          refine v_lvp [0, 4, 1, 5, 6, 7, 8, 9, 10, 11, 12, 13, 14, 15, 16, 17, 18, 19, 20, 21, 22, 23, 24, 25, 26, 27] rfl ?_
                          have hcw : cw (rC s ts) f 4 = cw (rC s ts) f n := cw_end (by omega) hn4
                          have hcl := cw_le (rC s ts) f n
                          exact ih5 (f + 1) mo (by omega) (fun z h0 h1 h2 => by
                                by_cases y : z = f
                                · subst y; omega
                                · exact hm1 z (by omega) h1 h2) (hm2.imp id (fun ⟨z, a, b⟩ => ⟨z, by omega, b⟩)) (by omega) (by omega)
                        · have c107 := (nn_gt_f (a := f) (b := q) (by omega) (by omega)).mp c107
                          refine v_iload C 7 rfl dL_law_1663 ?_
                          refine v_iload C 2 rfl dL_law_1665 ?_
                          refine v_iconst (v := 4) C dL_law_1667 (by decide) ?_
                          refine v_iadd C dL_law_1668 (v_eqi (nI_adk f 4 (by decide)) ?_)
                          refine v_icmp_ge (tgt := 1677) C dL_law_1669 (by decide) (fun c110 => ?_) (fun c110 => ?_)
                          · have c110 := (nn_ge (a := q) (b := (f + 4)) (by omega) (by omega)).mp c110
                            refine v_iload C 4 rfl dL_law_1677 ?_
                            refine v_istore C [(23, .int (nI mo)), (27, .int (nI (f + n))), (26, .int (nI (1 + cw (rC s ts) f n))), (25, .int (nI f)), (24, .int 0), (22, .int (nI (1 + u3))), (21, .int (nI up)), (20, .int (nI q)), (19, .int (nI ts)), (18, .int (nI tm)), (17, .int (nI 16)), (16, .int y0), (15, .int x0), (14, .int (nI t0)), (13, .int (nI (bN s))), (12, .int (nI (rN s))), (11, .int (nI (oN s))), (10, .int (nI (oS s).length)), (9, .int (nI N)), (8, .ref (ad 6)), (7, .ref (ad 5)), (6, .ref (ad 4)), (5, .ref (ad 3)), (4, .ref (ad 2)), (3, .ref (ad 1)), (2, .ref (ad 0)), (1, .ref x), (0, .ref sb)] rfl (by decide) dL_law_1679 ?_
                            refine v_iinc C 3 [(25, .int (nI (f + 1))), (23, .int (nI mo)), (27, .int (nI (f + n))), (26, .int (nI (1 + cw (rC s ts) f n))), (24, .int 0), (22, .int (nI (1 + u3))), (21, .int (nI up)), (20, .int (nI q)), (19, .int (nI ts)), (18, .int (nI tm)), (17, .int (nI 16)), (16, .int y0), (15, .int x0), (14, .int (nI t0)), (13, .int (nI (bN s))), (12, .int (nI (rN s))), (11, .int (nI (oN s))), (10, .int (nI (oS s).length)), (9, .int (nI N)), (8, .ref (ad 6)), (7, .ref (ad 5)), (6, .ref (ad 4)), (5, .ref (ad 3)), (4, .ref (ad 2)), (3, .ref (ad 1)), (2, .ref (ad 0)), (1, .ref x), (0, .ref sb)] rfl (nI_inc f 1 (by decide)) rfl (by decide) dL_law_1681 ?_
                            refine v_goto (tgt := 1566) C dL_law_1684 (by decide) ?_
                            refine v_lvp [0, 4, 1, 5, 6, 7, 8, 9, 10, 11, 12, 13, 14, 15, 16, 17, 18, 19, 20, 21, 22, 23, 24, 25, 26, 27] rfl ?_
                            have hcw : cw (rC s ts) f 4 = cw (rC s ts) f n := cw_end (by omega) hn4
                            have hcl := cw_le (rC s ts) f n
                            exact ih5 (f + 1) mo (by omega) (fun z h0 h1 h2 => by
                                  by_cases y : z = f
                                  · subst y; omega
                                  · exact hm1 z (by omega) h1 h2) (hm2.imp id (fun ⟨z, a, b⟩ => ⟨z, by omega, b⟩)) (by omega) (by omega)
                          · have c110 := (nn_ge_f (a := q) (b := (f + 4)) (by omega) (by omega)).mp c110
                            refine v_iload C 1 rfl dL_law_1672 ?_
                            refine v_goto (tgt := 1679) C dL_law_1674 (by decide) ?_
                            refine v_istore C [(23, .int (nI (1 + cw (rC s ts) f n))), (27, .int (nI (f + n))), (26, .int (nI (1 + cw (rC s ts) f n))), (25, .int (nI f)), (24, .int 0), (22, .int (nI (1 + u3))), (21, .int (nI up)), (20, .int (nI q)), (19, .int (nI ts)), (18, .int (nI tm)), (17, .int (nI 16)), (16, .int y0), (15, .int x0), (14, .int (nI t0)), (13, .int (nI (bN s))), (12, .int (nI (rN s))), (11, .int (nI (oN s))), (10, .int (nI (oS s).length)), (9, .int (nI N)), (8, .ref (ad 6)), (7, .ref (ad 5)), (6, .ref (ad 4)), (5, .ref (ad 3)), (4, .ref (ad 2)), (3, .ref (ad 1)), (2, .ref (ad 0)), (1, .ref x), (0, .ref sb)] rfl (by decide) dL_law_1679 ?_
                            refine v_iinc C 3 [(25, .int (nI (f + 1))), (23, .int (nI (1 + cw (rC s ts) f n))), (27, .int (nI (f + n))), (26, .int (nI (1 + cw (rC s ts) f n))), (24, .int 0), (22, .int (nI (1 + u3))), (21, .int (nI up)), (20, .int (nI q)), (19, .int (nI ts)), (18, .int (nI tm)), (17, .int (nI 16)), (16, .int y0), (15, .int x0), (14, .int (nI t0)), (13, .int (nI (bN s))), (12, .int (nI (rN s))), (11, .int (nI (oN s))), (10, .int (nI (oS s).length)), (9, .int (nI N)), (8, .ref (ad 6)), (7, .ref (ad 5)), (6, .ref (ad 4)), (5, .ref (ad 3)), (4, .ref (ad 2)), (3, .ref (ad 1)), (2, .ref (ad 0)), (1, .ref x), (0, .ref sb)] rfl (nI_inc f 1 (by decide)) rfl (by decide) dL_law_1681 ?_
                            refine v_goto (tgt := 1566) C dL_law_1684 (by decide) ?_
                            refine v_lvp [0, 4, 1, 5, 6, 7, 8, 9, 10, 11, 12, 13, 14, 15, 16, 17, 18, 19, 20, 21, 22, 23, 24, 25, 26, 27] rfl ?_
                            have hcw : cw (rC s ts) f 4 = cw (rC s ts) f n := cw_end (by omega) hn4
                            have hcl := cw_le (rC s ts) f n
                            exact ih5 (f + 1) (1 + cw (rC s ts) f n) (by omega) (fun z h0 h1 h2 => by
                                  by_cases y : z = f
                                  · subst y; omega
                                  · have := hm1 z (by omega) h1 h2; omega) (Or.inr ⟨f, by omega, by omega, by omega, by rw [hcw]⟩) (by omega) (by omega)
                    · have c104 := (nk_ge_f (a := (f + n)) 9 (by decide) (by omega) (by decide)).mp c104
                      refine v_iload C 1 rfl dL_law_1616 ?_
                      refine v_aload C 21 rfl dL_law_1618 ?_
                      refine v_bipush (v := 32) C dL_law_1620 (by decide) ?_
                      refine v_iload C 8 rfl dL_law_1622 ?_
                      refine v_imul C dL_law_1624 (v_eqi (nI_kml ts 32 (by decide)) ?_)
                      refine v_bipush (v := 13) C dL_law_1625 (by decide) ?_
                      refine v_iadd C dL_law_1627 (v_eqi (nI_adk (32 * ts) 13 (by decide)) ?_)
                      refine v_iload C 0 rfl dL_law_1628 ?_
                      refine v_iadd C dL_law_1630 (v_eqi (nI_add ((32 * ts) + 13) (f + n)) ?_)
                      refine v_iald C (lx.1.2.2.2.2.1) (vpin (show 32 * ts + 13 + (f + n) < 64 by omega) (by decide)) dL_law_1631 (v_eqi (y := (rC s ts ((f + n)))) ((congrArg B (nI_clamp (show 32 * ts + 13 + (f + n) < 2 ^ 31 by omega))).trans ((hEc ((f + n)) (by omega)).1)) ?_)
                      refine v_if_le (tgt := 1639) C dL_law_1632 (by decide) (fun c116 => ?_) (fun c116 => ?_)
                      · refine v_iconst (v := 0) C dL_law_1639 (by decide) ?_
                        refine v_iadd C dL_law_1640 (v_eqi (y := (nI (1 + cw (rC s ts) f (n + 1)))) ((nI_adk _ 0 (by decide)).trans (congrArg nI (show 1 + cw (rC s ts) f n + 0 = 1 + cw (rC s ts) f (n + 1) by rw [← cw_st (fun z => absurd ((rC_sgn ((hrQ (f + n) (by omega)).2)).mpr z.2) (Int32.not_lt.mpr c116))]; rfl))) ?_)
                        refine v_istore C [(26, .int (nI (1 + cw (rC s ts) f (n + 1)))), (27, .int (nI (f + n))), (25, .int (nI f)), (24, .int 0), (23, .int (nI mo)), (22, .int (nI (1 + u3))), (21, .int (nI up)), (20, .int (nI q)), (19, .int (nI ts)), (18, .int (nI tm)), (17, .int (nI 16)), (16, .int y0), (15, .int x0), (14, .int (nI t0)), (13, .int (nI (bN s))), (12, .int (nI (rN s))), (11, .int (nI (oN s))), (10, .int (nI (oS s).length)), (9, .int (nI N)), (8, .ref (ad 6)), (7, .ref (ad 5)), (6, .ref (ad 4)), (5, .ref (ad 3)), (4, .ref (ad 2)), (3, .ref (ad 1)), (2, .ref (ad 0)), (1, .ref x), (0, .ref sb)] rfl (by decide) dL_law_1641 ?_
                        refine v_iinc C 1 [(27, .int (nI ((f + n) + 1))), (26, .int (nI (1 + cw (rC s ts) f (n + 1)))), (25, .int (nI f)), (24, .int 0), (23, .int (nI mo)), (22, .int (nI (1 + u3))), (21, .int (nI up)), (20, .int (nI q)), (19, .int (nI ts)), (18, .int (nI tm)), (17, .int (nI 16)), (16, .int y0), (15, .int x0), (14, .int (nI t0)), (13, .int (nI (bN s))), (12, .int (nI (rN s))), (11, .int (nI (oN s))), (10, .int (nI (oS s).length)), (9, .int (nI N)), (8, .ref (ad 6)), (7, .ref (ad 5)), (6, .ref (ad 4)), (5, .ref (ad 3)), (4, .ref (ad 2)), (3, .ref (ad 1)), (2, .ref (ad 0)), (1, .ref x), (0, .ref sb)] rfl (nI_inc (f + n) 1 (by decide)) rfl (by decide) dL_law_1643 ?_
                        refine v_goto (tgt := 1600) C dL_law_1646 (by decide) ?_
                        refine v_lvp [0, 1, 2, 3, 4, 5, 6, 7, 8, 9, 10, 11, 12, 13, 14, 15, 16, 17, 18, 19, 20, 21, 22, 23, 24, 25, 26, 27] rfl ?_
                        exact ih93 (n + 1) (by omega) (by omega)
                      · refine v_iconst (v := 1) C dL_law_1635 (by decide) ?_
                        refine v_goto (tgt := 1640) C dL_law_1636 (by decide) ?_
                        refine v_iadd C dL_law_1640 (v_eqi (y := (nI (1 + cw (rC s ts) f (n + 1)))) ((nI_adk _ 1 (by decide)).trans (congrArg nI (show 1 + cw (rC s ts) f n + 1 = 1 + cw (rC s ts) f (n + 1) by rw [← cw_up ⟨by omega, (rC_sgn ((hrQ (f + n) (by omega)).2)).mp (Int32.not_le.mp c116)⟩]; omega))) ?_)
                        refine v_istore C [(26, .int (nI (1 + cw (rC s ts) f (n + 1)))), (27, .int (nI (f + n))), (25, .int (nI f)), (24, .int 0), (23, .int (nI mo)), (22, .int (nI (1 + u3))), (21, .int (nI up)), (20, .int (nI q)), (19, .int (nI ts)), (18, .int (nI tm)), (17, .int (nI 16)), (16, .int y0), (15, .int x0), (14, .int (nI t0)), (13, .int (nI (bN s))), (12, .int (nI (rN s))), (11, .int (nI (oN s))), (10, .int (nI (oS s).length)), (9, .int (nI N)), (8, .ref (ad 6)), (7, .ref (ad 5)), (6, .ref (ad 4)), (5, .ref (ad 3)), (4, .ref (ad 2)), (3, .ref (ad 1)), (2, .ref (ad 0)), (1, .ref x), (0, .ref sb)] rfl (by decide) dL_law_1641 ?_
                        refine v_iinc C 1 [(27, .int (nI ((f + n) + 1))), (26, .int (nI (1 + cw (rC s ts) f (n + 1)))), (25, .int (nI f)), (24, .int 0), (23, .int (nI mo)), (22, .int (nI (1 + u3))), (21, .int (nI up)), (20, .int (nI q)), (19, .int (nI ts)), (18, .int (nI tm)), (17, .int (nI 16)), (16, .int y0), (15, .int x0), (14, .int (nI t0)), (13, .int (nI (bN s))), (12, .int (nI (rN s))), (11, .int (nI (oN s))), (10, .int (nI (oS s).length)), (9, .int (nI N)), (8, .ref (ad 6)), (7, .ref (ad 5)), (6, .ref (ad 4)), (5, .ref (ad 3)), (4, .ref (ad 2)), (3, .ref (ad 1)), (2, .ref (ad 0)), (1, .ref x), (0, .ref sb)] rfl (nI_inc (f + n) 1 (by decide)) rfl (by decide) dL_law_1643 ?_
                        refine v_goto (tgt := 1600) C dL_law_1646 (by decide) ?_
                        refine v_lvp [0, 1, 2, 3, 4, 5, 6, 7, 8, 9, 10, 11, 12, 13, 14, 15, 16, 17, 18, 19, 20, 21, 22, 23, 24, 25, 26, 27] rfl ?_
                        exact ih93 (n + 1) (by omega) (by omega)
              refine v_lvp [0, 1, 2, 3, 4, 5, 6, 7, 8, 9, 10, 11, 12, 13, 14, 15, 16, 17, 18, 19, 20, 21, 22, 23, 24, 25, 26, 27] rfl ?_
              exact L93 5 0 (Nat.zero_le _) (by omega)
    refine v_lvp [0, 1, 2, 3, 4, 5, 6, 7, 8, 9, 10, 11, 12, 13, 14, 15, 16, 17, 18, 19, 20, 21, 22, 23, 24, 25] rfl ?_
    exact L5 10 0 0 (Nat.zero_le _) (fun z hz => absurd hz (Nat.not_lt_zero _)) (Or.inl rfl) (by omega) (by omega)
  · have c1 := (nk_ne_f (a := (rN s)) 0 (by decide) (by omega) (by decide)).mp c1
    refine v_goto (tgt := 2313) C dL_law_1540 (by decide) ?_
    refine v_lvp [7, 8, 9, 10, 11, 12, 13, 14, 15, 16, 17, 18, 19, 20, 21] rfl ?_
    exact v_widen (by omega) (by omega) (next _ _ _ _ _ _ _ _ _ _ _ _ _ ⟨hi, hw, lx, li.2.2.2.mono (by omega)⟩)

set_option maxHeartbeats 8000000 in
set_option maxRecDepth 100000 in
theorem law_bask {zp : Program} {l : Launch} {ze : Env} {zs : State} {zm : MethodId} {zargs : Array Value} {zbelow : List Frame} {zmeth : Method} {zc : Code} {G : zG} (hl : l.stackTraces = false) (C : zOK zp l ze room_1 zs zm zargs zbelow zmeth zc G cL_law 29 RL) (hNc : zNc zs) {Q : State → Prop} {sb t0 : Nat} {h : zH} {g : XGh} {x : Nat} {ad : Nat → Nat} {s : ZS} {F : Nat → Nat} {A D : Nat → Int32} {VV : Nat → Nat} {B U : Nat → Int32} {S : Nat → Nat} {T : Nat → List Tok} {lv : Nat → Nat} {N : Nat} (cs sl : Nat) (hcs : cs + 1300 ≤ 670155) (hsl : sl + 45000 ≤ 7091004) (q tm ts up : Nat) (x0 y0 : Int32) (kd : Nat) (li : LI G h g x ad s F A D VV B U S T lv N (700 * t0)) (ht0 : t0 < 60) (hq : q < 9) (htm : tm < oN s ∨ (oN s = 0 ∧ tm = 0)) (hts : ts < rN s ∨ (rN s = 0 ∧ ts = 0)) (hup : 0 < (oS s).length → up = S ((oS s).length - 1))  (chk : ∀ (h2 : zH) (g2 : XGh) (s2 : ZS) (F2 : Nat → Nat) (A2 D2 : Nat → Int32) (VV2 : Nat → Nat) (B2 U2 : Nat → Int32) (S2 : Nat → Nat) (T2 : Nat → List Tok) (lv2 : Nat → Nat) (N2 : Nat), LI G h2 g2 x ad s2 F2 A2 D2 VV2 B2 U2 S2 T2 lv2 N2 (700 * (t0 + 1)) → V zp l ze room_1 zs zm zargs zbelow zmeth zc G 29 Q h2 (cs + 200) (sl + 20000) 2268 [(20, .int (nI q)), (16, .int y0), (14, .int (nI t0)), (13, .int (nI (bN s2))), (12, .int (nI (rN s2))), (11, .int (nI (oN s2))), (10, .int (nI (oS s2).length)), (9, .int (nI N2)), (8, .ref (ad 6)), (7, .ref (ad 5)), (6, .ref (ad 4)), (5, .ref (ad 3)), (4, .ref (ad 2)), (3, .ref (ad 1)), (2, .ref (ad 0)), (1, .ref x), (0, .ref sb)] []) (next : ∀ (h2 : zH) (g2 : XGh) (s2 : ZS) (F2 : Nat → Nat) (A2 D2 : Nat → Int32) (VV2 : Nat → Nat) (B2 U2 : Nat → Int32) (S2 : Nat → Nat) (T2 : Nat → List Tok) (lv2 : Nat → Nat) (N2 : Nat), LI G h2 g2 x ad s2 F2 A2 D2 VV2 B2 U2 S2 T2 lv2 N2 (700 * (t0 + 1)) → V zp l ze room_1 zs zm zargs zbelow zmeth zc G 29 Q h2 (cs + 1300) (sl + 45000) 2313 [(14, .int (nI t0)), (13, .int (nI (bN s2))), (12, .int (nI (rN s2))), (11, .int (nI (oN s2))), (10, .int (nI (oS s2).length)), (9, .int (nI N2)), (8, .ref (ad 6)), (7, .ref (ad 5)), (6, .ref (ad 4)), (5, .ref (ad 3)), (4, .ref (ad 2)), (3, .ref (ad 1)), (2, .ref (ad 0)), (1, .ref x), (0, .ref sb)] []) : V zp l ze room_1 zs zm zargs zbelow zmeth zc G 29 Q h (cs) (sl) 1888 [(21, .int (nI up)), (20, .int (nI q)), (19, .int (nI ts)), (18, .int (nI tm)), (17, .int (nI kd)), (16, .int y0), (15, .int x0), (14, .int (nI t0)), (13, .int (nI (bN s))), (12, .int (nI (rN s))), (11, .int (nI (oN s))), (10, .int (nI (oS s).length)), (9, .int (nI N)), (8, .ref (ad 6)), (7, .ref (ad 5)), (6, .ref (ad 4)), (5, .ref (ad 3)), (4, .ref (ad 2)), (3, .ref (ad 1)), (2, .ref (ad 0)), (1, .ref x), (0, .ref sb)] [] := by
  obtain ⟨hi, hw, lx, he, hs, hV, hd, hT, hU⟩ := id li
  have hM := he.1
  have hN6 := he.2.1
  have hK8 := hw.1
  have hR2 := hT.1
  have hB2 := hU.1
  refine v_iload C 10 rfl dL_law_1888 ?_
  refine v_if_ne (tgt := 1896) C dL_law_1890 (by decide) (fun c1 => ?_) (fun c1 => ?_)
  · have c1 := (nk_ne (a := (oN s)) 0 (by decide) (by omega) (by decide)).mp c1
    refine v_iload C 8 rfl dL_law_1896 ?_
    refine v_iconst (v := 2) C dL_law_1898 (by decide) ?_
    refine v_icmp_ge (tgt := 1997) C dL_law_1899 (by decide) (fun c2 => ?_) (fun c2 => ?_)
    · have c2 := (nk_ge (a := (bN s)) 2 (by decide) (by omega) (by decide)).mp c2
      refine v_iconst (v := 0) C dL_law_1997 (by decide) ?_
      refine v_istore C [(22, .int 0), (21, .int (nI up)), (20, .int (nI q)), (19, .int (nI ts)), (18, .int (nI tm)), (17, .int (nI kd)), (16, .int y0), (15, .int x0), (14, .int (nI t0)), (13, .int (nI (bN s))), (12, .int (nI (rN s))), (11, .int (nI (oN s))), (10, .int (nI (oS s).length)), (9, .int (nI N)), (8, .ref (ad 6)), (7, .ref (ad 5)), (6, .ref (ad 4)), (5, .ref (ad 3)), (4, .ref (ad 2)), (3, .ref (ad 1)), (2, .ref (ad 0)), (1, .ref x), (0, .ref sb)] rfl (by decide) dL_law_1998 ?_
      refine v_lvp (lv2 := [(22, .int (nI 0)), (20, .int (nI q)), (16, .int y0), (14, .int (nI t0)), (13, .int (nI (bN s))), (12, .int (nI (rN s))), (11, .int (nI (oN s))), (10, .int (nI (oS s).length)), (9, .int (nI N)), (8, .ref (ad 6)), (7, .ref (ad 5)), (6, .ref (ad 4)), (5, .ref (ad 3)), (4, .ref (ad 2)), (3, .ref (ad 1)), (2, .ref (ad 0)), (1, .ref x), (0, .ref sb)]) [0, 2, 6, 8, 9, 10, 11, 12, 13, 14, 15, 16, 17, 18, 19, 20, 21, 22] rfl ?_
      refine v_widen (c2 := cs + 50) (s2 := sl + 9000) (by omega) (by omega) ?_
      exact law_bloop hl C hNc cs sl hcs hsl q y0 ⟨hi, hw, lx, li.2.2.2.mono (by omega)⟩ ht0 hq (fun j hj => (hU.2 j hj).2.2.2) chk next
    · have c2 := (nk_ge_f (a := (bN s)) 2 (by decide) (by omega) (by decide)).mp c2
      refine v_iload C 6 rfl dL_law_1902 ?_
      refine v_iconst (v := 5) C dL_law_1904 (by decide) ?_
      refine v_ishr C dL_law_1905 (v_topi (fun i3 e3 => ?_))
      refine v_iconst (v := 2) C dL_law_1906 (by decide) ?_
      refine v_callS (rest := []) C (c_L_low l hl G i3 2 h (by decide) (by omega)) S_L_178 rfl rfl (Nat.le_of_ble_eq_true rfl) ⟨Nat.le_of_ble_eq_true rfl, Nat.le_of_ble_eq_true rfl⟩ ⟨by show cs + 0 ≤ 670155; omega, by show sl + 0 ≤ 7091004; omega⟩ dL_law_1907 (fun i4 h4 q4 => ?_)
      obtain ⟨e4, rfl⟩ := q4
      obtain ⟨u4, hu4, eu4⟩ : ∃ u, u < 2 ∧ lw i3 2 = u := ⟨_, lw_lt (by decide), rfl⟩
      rw [eu4] at e4; subst e4
      refine v_if_ne (tgt := 1997) C dL_law_1910 (by decide) (fun c5 => ?_) (fun c5 => ?_)
      · have c5 := (nk_ne (a := u4) 0 (by decide) (by omega) (by decide)).mp c5
        refine v_iconst (v := 0) C dL_law_1997 (by decide) ?_
        refine v_istore C [(22, .int 0), (21, .int (nI up)), (20, .int (nI q)), (19, .int (nI ts)), (18, .int (nI tm)), (17, .int (nI kd)), (16, .int y0), (15, .int x0), (14, .int (nI t0)), (13, .int (nI (bN s))), (12, .int (nI (rN s))), (11, .int (nI (oN s))), (10, .int (nI (oS s).length)), (9, .int (nI N)), (8, .ref (ad 6)), (7, .ref (ad 5)), (6, .ref (ad 4)), (5, .ref (ad 3)), (4, .ref (ad 2)), (3, .ref (ad 1)), (2, .ref (ad 0)), (1, .ref x), (0, .ref sb)] rfl (by decide) dL_law_1998 ?_
        refine v_lvp (lv2 := [(22, .int (nI 0)), (20, .int (nI q)), (16, .int y0), (14, .int (nI t0)), (13, .int (nI (bN s))), (12, .int (nI (rN s))), (11, .int (nI (oN s))), (10, .int (nI (oS s).length)), (9, .int (nI N)), (8, .ref (ad 6)), (7, .ref (ad 5)), (6, .ref (ad 4)), (5, .ref (ad 3)), (4, .ref (ad 2)), (3, .ref (ad 1)), (2, .ref (ad 0)), (1, .ref x), (0, .ref sb)]) [0, 2, 6, 8, 9, 10, 11, 12, 13, 14, 15, 16, 17, 18, 19, 20, 21, 22] rfl ?_
        refine v_widen (c2 := cs + 50) (s2 := sl + 9000) (by omega) (by omega) ?_
        exact law_bloop hl C hNc cs sl hcs hsl q y0 ⟨hi, hw, lx, li.2.2.2.mono (by omega)⟩ ht0 hq (fun j hj => (hU.2 j hj).2.2.2) chk next
      · have c5 := (nk_ne_f (a := u4) 0 (by decide) (by omega) (by decide)).mp c5
        refine v_aload C 14 rfl dL_law_1913 ?_
        refine v_iconst (v := 4) C dL_law_1915 (by decide) ?_
        refine v_iload C 8 rfl dL_law_1916 ?_
        refine v_imul C dL_law_1918 (v_eqi (nI_kml (bN s) 4 (by decide)) ?_)
        refine v_iload C 6 rfl dL_law_1919 ?_
        refine v_bipush (v := 6) C dL_law_1921 (by decide) ?_
        refine v_ishr C dL_law_1923 (v_topi (fun i7 e7 => ?_))
        refine v_sipush (v := 500) C dL_law_1924 (by decide) ?_
        refine v_callS (rest := [.int (nI (4 * (bN s))), .ref (ad 5)]) C (c_L_low l hl G i7 500 h (by decide) (by omega)) S_L_178 rfl rfl (Nat.le_of_ble_eq_true rfl) ⟨Nat.le_of_ble_eq_true rfl, Nat.le_of_ble_eq_true rfl⟩ ⟨by show cs + 0 + 0 ≤ 670155; omega, by show sl + 0 + 0 ≤ 7091004; omega⟩ dL_law_1927 (fun i8 h8 q8 => ?_)
        obtain ⟨e8, rfl⟩ := q8
        obtain ⟨u8, hu8, eu8⟩ : ∃ u, u < 500 ∧ lw i7 500 = u := ⟨_, lw_lt (by decide), rfl⟩
        rw [eu8] at e8; subst e8
        refine v_iast C (lx.1.2.2.2.2.2.1) (vpin (show 4 * (bN s) < 8 by omega) (by decide)) dL_law_1930 (v_nw (fun h9 eh9 => ?_))
        have lw9 := lx.p5 (i := 4 * (bN s)) (y := (nI u8)) (by omega) eh9
        have xi9 := lx.xi hi (i := 5) (by decide) eh9
        refine v_aload C 14 rfl dL_law_1931 ?_
        refine v_iconst (v := 4) C dL_law_1933 (by decide) ?_
        refine v_iload C 8 rfl dL_law_1934 ?_
        refine v_imul C dL_law_1936 (v_eqi (nI_kml (bN s) 4 (by decide)) ?_)
        refine v_iconst (v := 1) C dL_law_1937 (by decide) ?_
        refine v_iadd C dL_law_1938 (v_eqi (nI_adk (4 * (bN s)) 1 (by decide)) ?_)
        refine v_iload C 3 rfl dL_law_1939 ?_
        refine v_iast C (lw9.1.2.2.2.2.2.1) (vpin (show 4 * (bN s) + 1 < 8 by omega) (by decide)) dL_law_1941 (v_nw (fun h12 eh12 => ?_))
        have lw12 := lw9.p5 (i := 4 * (bN s) + 1) (y := (nI tm)) (by omega) eh12
        have xi12 := lw9.xi xi9 (i := 5) (by decide) eh12
        refine v_aload C 14 rfl dL_law_1942 ?_
        refine v_iconst (v := 4) C dL_law_1944 (by decide) ?_
        refine v_iload C 8 rfl dL_law_1945 ?_
        refine v_imul C dL_law_1947 (v_eqi (nI_kml (bN s) 4 (by decide)) ?_)
        refine v_iconst (v := 2) C dL_law_1948 (by decide) ?_
        refine v_iadd C dL_law_1949 (v_eqi (nI_adk (4 * (bN s)) 2 (by decide)) ?_)
        refine v_iload C 6 rfl dL_law_1950 ?_
        refine v_bipush (v := 15) C dL_law_1952 (by decide) ?_
        refine v_ishr C dL_law_1954 (v_topi (fun i15 e15 => ?_))
        refine v_bipush (v := 101) C dL_law_1955 (by decide) ?_
        refine v_callS (rest := [.int (nI ((4 * (bN s)) + 2)), .ref (ad 5)]) C (c_L_low l hl G i15 101 h12 (by decide) (by omega)) S_L_178 rfl rfl (Nat.le_of_ble_eq_true rfl) ⟨Nat.le_of_ble_eq_true rfl, Nat.le_of_ble_eq_true rfl⟩ ⟨by show cs + 0 + 0 + 0 ≤ 670155; omega, by show sl + 0 + 0 + 0 ≤ 7091004; omega⟩ dL_law_1957 (fun i16 h16 q16 => ?_)
        obtain ⟨e16, rfl⟩ := q16
        obtain ⟨u16, hu16, eu16⟩ : ∃ u, u < 101 ∧ lw i15 101 = u := ⟨_, lw_lt (by decide), rfl⟩
        rw [eu16] at e16; subst e16
        refine v_iast C (lw12.1.2.2.2.2.2.1) (vpin (show 4 * (bN s) + 2 < 8 by omega) (by decide)) dL_law_1960 (v_nw (fun h17 eh17 => ?_))
        have lw17 := lw12.p5 (i := 4 * (bN s) + 2) (y := (nI u16)) (by omega) eh17
        have xi17 := lw12.xi xi12 (i := 5) (by decide) eh17
        refine v_iinc C 8 [(13, .int (nI ((bN s) + 1))), (21, .int (nI up)), (20, .int (nI q)), (19, .int (nI ts)), (18, .int (nI tm)), (17, .int (nI kd)), (16, .int y0), (15, .int x0), (14, .int (nI t0)), (12, .int (nI (rN s))), (11, .int (nI (oN s))), (10, .int (nI (oS s).length)), (9, .int (nI N)), (8, .ref (ad 6)), (7, .ref (ad 5)), (6, .ref (ad 4)), (5, .ref (ad 3)), (4, .ref (ad 2)), (3, .ref (ad 1)), (2, .ref (ad 0)), (1, .ref x), (0, .ref sb)] rfl (nI_inc (bN s) 1 (by decide)) rfl (by decide) dL_law_1961 ?_
        refine v_aload_n C 20 rfl dL_law_1964 rfl ?_
        refine v_aload C 14 rfl dL_law_1965 ?_
        refine v_iconst (v := 4) C dL_law_1967 (by decide) ?_
        refine v_iload C 0 rfl dL_law_1968 ?_
        refine v_imul C dL_law_1970 (v_eqi (nI_kml ((bN s) + 1) 4 (by decide)) ?_)
        refine v_iconst (v := 4) C dL_law_1971 (by decide) ?_
        refine v_isub C dL_law_1972 (v_eqi (y := (nI (4 * bN s))) ((nI_sbk (a := 4 * (bN s + 1)) 4 (by decide) (by omega)).trans (congrArg nI (show 4 * (bN s + 1) - 4 = 4 * bN s by omega))) ?_)
        refine v_iald C (lw17.1.2.2.2.2.2.1) (vpin (show 4 * bN s < 8 by omega) (by decide)) dL_law_1973 (v_eqi (y := (nI u8)) ((congrArg (up2 (up2 (up2 U (4 * (bN s)) (nI u8)) (4 * (bN s) + 1) (nI tm)) (4 * (bN s) + 2) (nI u16)) (nI_clamp (show 4 * bN s < 2 ^ 31 by omega))).trans ((up2_n (by omega)).trans ((up2_n (by omega)).trans (up2_s)))) ?_)
        refine v_iload C 4 rfl dL_law_1974 ?_
        refine v_aload C 14 rfl dL_law_1976 ?_
        refine v_iconst (v := 4) C dL_law_1978 (by decide) ?_
        refine v_iload C 0 rfl dL_law_1979 ?_
        refine v_imul C dL_law_1981 (v_eqi (nI_kml ((bN s) + 1) 4 (by decide)) ?_)
        refine v_iconst (v := 2) C dL_law_1982 (by decide) ?_
        refine v_isub C dL_law_1983 (v_eqi (y := (nI (4 * bN s + 2))) ((nI_sbk (a := 4 * (bN s + 1)) 2 (by decide) (by omega)).trans (congrArg nI (show 4 * (bN s + 1) - 2 = 4 * bN s + 2 by omega))) ?_)
        refine v_iald C (lw17.1.2.2.2.2.2.1) (vpin (show 4 * bN s + 2 < 8 by omega) (by decide)) dL_law_1984 (v_eqi (y := (nI u16)) ((congrArg (up2 (up2 (up2 U (4 * (bN s)) (nI u8)) (4 * (bN s) + 1) (nI tm)) (4 * (bN s) + 2) (nI u16)) (nI_clamp (show 4 * bN s + 2 < 2 ^ 31 by omega))).trans (up2_s)) ?_)
        refine v_callVX (rest := []) C (c_X4_basket l hl G x g s (nI u8) (nI tm) (nI u16) h17 xi17 hw) K_L_207 xi17.1.1.1 rfl rfl (Nat.le_of_ble_eq_true rfl) ⟨Nat.le_of_ble_eq_true rfl, Nat.le_of_ble_eq_true rfl⟩ ⟨by show cs + 0 + 0 + 0 + 10 ≤ 670155; omega, by show sl + 0 + 0 + 0 + 8000 ≤ 7091004; omega⟩ dL_law_1985 (fun r23 h23 w23 => ?_) (fun E23 h23 w23 => ?_)
        · obtain ⟨-, er23, g23, xi23, fz23⟩ := w23
          have lw23 := lw17.fr fz23
          have fr23 := fz23
          replace er23 := er23.trans (rfl)
          subst er23
          refine v_iload C 0 rfl dL_law_1988 ?_
          refine v_iconst (v := 1) C dL_law_1990 (by decide) ?_
          refine v_isub C dL_law_1991 (v_eqi (y := (nI (bN s))) ((nI_sbk (a := bN s + 1) 1 (by decide) (by omega))) ?_)
          refine v_icmp_eq (tgt := 1997) C dL_law_1992 (by decide) (fun c25 => ?_) (fun c25 => absurd rfl c25)
          refine v_iconst (v := 0) C dL_law_1997 (by decide) ?_
          refine v_istore C [(22, .int 0), (13, .int (nI ((bN s) + 1))), (21, .int (nI up)), (20, .int (nI q)), (19, .int (nI ts)), (18, .int (nI tm)), (17, .int (nI kd)), (16, .int y0), (15, .int x0), (14, .int (nI t0)), (12, .int (nI (rN s))), (11, .int (nI (oN s))), (10, .int (nI (oS s).length)), (9, .int (nI N)), (8, .ref (ad 6)), (7, .ref (ad 5)), (6, .ref (ad 4)), (5, .ref (ad 3)), (4, .ref (ad 2)), (3, .ref (ad 1)), (2, .ref (ad 0)), (1, .ref x), (0, .ref sb)] rfl (by decide) dL_law_1998 ?_
          refine v_lvp (lv2 := [(22, .int (nI 0)), (20, .int (nI q)), (16, .int y0), (14, .int (nI t0)), (13, .int (nI (bN (nBasket s (nI u8) (nI tm) (nI u16))))), (12, .int (nI (rN (nBasket s (nI u8) (nI tm) (nI u16))))), (11, .int (nI (oN (nBasket s (nI u8) (nI tm) (nI u16))))), (10, .int (nI (oS (nBasket s (nI u8) (nI tm) (nI u16))).length)), (9, .int (nI N)), (8, .ref (ad 6)), (7, .ref (ad 5)), (6, .ref (ad 4)), (5, .ref (ad 3)), (4, .ref (ad 2)), (3, .ref (ad 1)), (2, .ref (ad 0)), (1, .ref x), (0, .ref sb)]) [0, 3, 7, 9, 1, 10, 11, 12, 13, 14, 15, 16, 17, 18, 19, 20, 21, 22] rfl ?_
          refine v_widen (c2 := cs + 50) (s2 := sl + 9000) (by omega) (by omega) ?_
          exact law_bloop hl C hNc cs sl hcs hsl q y0 ⟨xi23, (wf_basket hw (c_bas hN6 (show tm < oN s by omega) (wth_n (n := 1000000) (by omega) (by decide) (by decide)) (wth_n (n := 100) (by omega) (by decide) (by decide)) (by omega))), lw23, ((rs_basket li.2.2.2 hw (by omega) (show tm < oN s by omega)).mono (by omega))⟩ ht0 hq (fun j hj => by
              rw [up2_n (show 4 * j + 3 ≠ 4 * bN s + 2 by omega), up2_n (show 4 * j + 3 ≠ 4 * bN s + 1 by omega), up2_n (show 4 * j + 3 ≠ 4 * bN s by omega)]; exact (hU.2 j hj).2.2.2) chk next
        · obtain ⟨-, w23⟩ := w23
          rcases w23 with ⟨ek, -⟩ | ⟨ek, -⟩ | ⟨ek, -⟩
          · exact absurd ((c_bas hN6 (show tm < oN s by omega) (wth_n (n := 1000000) (by omega) (by decide) (by decide)) (wth_n (n := 100) (by omega) (by decide) (by decide)) (by omega)).symm.trans ek) (by decide)
          · exact absurd ((c_bas hN6 (show tm < oN s by omega) (wth_n (n := 1000000) (by omega) (by decide) (by decide)) (wth_n (n := 100) (by omega) (by decide) (by decide)) (by omega)).symm.trans ek) (by decide)
          · exact absurd ((c_bas hN6 (show tm < oN s by omega) (wth_n (n := 1000000) (by omega) (by decide) (by decide)) (wth_n (n := 100) (by omega) (by decide) (by decide)) (by omega)).symm.trans ek) (by decide)
  · have c1 := (nk_ne_f (a := (oN s)) 0 (by decide) (by omega) (by decide)).mp c1
    refine v_goto (tgt := 2313) C dL_law_1893 (by decide) ?_
    refine v_lvp [7, 8, 9, 10, 11, 12, 13, 14, 15, 16, 17, 18, 19, 20, 21] rfl ?_
    exact v_widen (by omega) (by omega) (next _ _ _ _ _ _ _ _ _ _ _ _ _ ⟨hi, hw, lx, li.2.2.2.mono (by omega)⟩)
set_option maxHeartbeats 8000000 in
set_option maxRecDepth 100000 in
theorem law_disp {zp : Program} {l : Launch} {ze : Env} {zs : State} {zm : MethodId} {zargs : Array Value} {zbelow : List Frame} {zmeth : Method} {zc : Code} {G : zG} (hl : l.stackTraces = false) (C : zOK zp l ze room_1 zs zm zargs zbelow zmeth zc G cL_law 29 RL) (hNc : zNc zs) {Q : State → Prop} {sb t0 : Nat} {h : zH} {g : XGh} {x : Nat} {ad : Nat → Nat} {s : ZS} {F : Nat → Nat} {A D : Nat → Int32} {VV : Nat → Nat} {B U : Nat → Int32} {S : Nat → Nat} {T : Nat → List Tok} {lv : Nat → Nat} {N : Nat} (cs sl : Nat) (hcs : cs + 1300 ≤ 670155) (hsl : sl + 45000 ≤ 7091004) (q tm ts up : Nat) (x0 y0 : Int32) (kd : Nat) (li : LI G h g x ad s F A D VV B U S T lv N (700 * t0)) (ht0 : t0 < 60) (hq : q < 9) (htm : tm < oN s ∨ (oN s = 0 ∧ tm = 0)) (hts : ts < rN s ∨ (rN s = 0 ∧ ts = 0)) (hup : 0 < (oS s).length → up = S ((oS s).length - 1)) (hkd : kd < 20) (chk : ∀ (h2 : zH) (g2 : XGh) (s2 : ZS) (F2 : Nat → Nat) (A2 D2 : Nat → Int32) (VV2 : Nat → Nat) (B2 U2 : Nat → Int32) (S2 : Nat → Nat) (T2 : Nat → List Tok) (lv2 : Nat → Nat) (N2 : Nat), LI G h2 g2 x ad s2 F2 A2 D2 VV2 B2 U2 S2 T2 lv2 N2 (700 * (t0 + 1)) → V zp l ze room_1 zs zm zargs zbelow zmeth zc G 29 Q h2 (cs + 200) (sl + 20000) 2268 [(20, .int (nI q)), (16, .int y0), (14, .int (nI t0)), (13, .int (nI (bN s2))), (12, .int (nI (rN s2))), (11, .int (nI (oN s2))), (10, .int (nI (oS s2).length)), (9, .int (nI N2)), (8, .ref (ad 6)), (7, .ref (ad 5)), (6, .ref (ad 4)), (5, .ref (ad 3)), (4, .ref (ad 2)), (3, .ref (ad 1)), (2, .ref (ad 0)), (1, .ref x), (0, .ref sb)] []) (next : ∀ (h2 : zH) (g2 : XGh) (s2 : ZS) (F2 : Nat → Nat) (A2 D2 : Nat → Int32) (VV2 : Nat → Nat) (B2 U2 : Nat → Int32) (S2 : Nat → Nat) (T2 : Nat → List Tok) (lv2 : Nat → Nat) (N2 : Nat), LI G h2 g2 x ad s2 F2 A2 D2 VV2 B2 U2 S2 T2 lv2 N2 (700 * (t0 + 1)) → V zp l ze room_1 zs zm zargs zbelow zmeth zc G 29 Q h2 (cs + 1300) (sl + 45000) 2313 [(14, .int (nI t0)), (13, .int (nI (bN s2))), (12, .int (nI (rN s2))), (11, .int (nI (oN s2))), (10, .int (nI (oS s2).length)), (9, .int (nI N2)), (8, .ref (ad 6)), (7, .ref (ad 5)), (6, .ref (ad 4)), (5, .ref (ad 3)), (4, .ref (ad 2)), (3, .ref (ad 1)), (2, .ref (ad 0)), (1, .ref x), (0, .ref sb)] []) : V zp l ze room_1 zs zm zargs zbelow zmeth zc G 29 Q h (cs) (sl) 211 [(21, .int (nI up)), (20, .int (nI q)), (19, .int (nI ts)), (18, .int (nI tm)), (17, .int (nI kd)), (16, .int y0), (15, .int x0), (14, .int (nI t0)), (13, .int (nI (bN s))), (12, .int (nI (rN s))), (11, .int (nI (oN s))), (10, .int (nI (oS s).length)), (9, .int (nI N)), (8, .ref (ad 6)), (7, .ref (ad 5)), (6, .ref (ad 4)), (5, .ref (ad 3)), (4, .ref (ad 2)), (3, .ref (ad 1)), (2, .ref (ad 0)), (1, .ref x), (0, .ref sb)] [] := by
  obtain ⟨hi, hw, lx, he, hs, hV, hd, hT, hU⟩ := id li
  have hM := he.1
  have hN6 := he.2.1
  have hK8 := hw.1
  have hR2 := hT.1
  have hB2 := hU.1
  refine v_iload C 4 rfl dL_law_211 ?_
  refine v_iconst (v := 2) C dL_law_213 (by decide) ?_
  refine v_icmp_ge (tgt := 293) C dL_law_214 (by decide) (fun c1 => ?_) (fun c1 => ?_)
  · have c1 := (nk_ge (a := kd) 2 (by decide) (by omega) (by decide)).mp c1
    refine v_iload C 4 rfl dL_law_293 ?_
    refine v_iconst (v := 5) C dL_law_295 (by decide) ?_
    refine v_icmp_ge (tgt := 573) C dL_law_296 (by decide) (fun c2 => ?_) (fun c2 => ?_)
    · have c2 := (nk_ge (a := kd) 5 (by decide) (by omega) (by decide)).mp c2
      refine v_iload C 4 rfl dL_law_573 ?_
      refine v_bipush (v := 8) C dL_law_575 (by decide) ?_
      refine v_icmp_ge (tgt := 768) C dL_law_577 (by decide) (fun c3 => ?_) (fun c3 => ?_)
      · have c3 := (nk_ge (a := kd) 8 (by decide) (by omega) (by decide)).mp c3
        refine v_iload C 4 rfl dL_law_768 ?_
        refine v_bipush (v := 10) C dL_law_770 (by decide) ?_
        refine v_icmp_ge (tgt := 936) C dL_law_772 (by decide) (fun c4 => ?_) (fun c4 => ?_)
        · have c4 := (nk_ge (a := kd) 10 (by decide) (by omega) (by decide)).mp c4
          refine v_iload C 4 rfl dL_law_936 ?_
          refine v_bipush (v := 12) C dL_law_938 (by decide) ?_
          refine v_icmp_ge (tgt := 1014) C dL_law_940 (by decide) (fun c5 => ?_) (fun c5 => ?_)
          · have c5 := (nk_ge (a := kd) 12 (by decide) (by omega) (by decide)).mp c5
            refine v_iload C 4 rfl dL_law_1014 ?_
            refine v_bipush (v := 12) C dL_law_1016 (by decide) ?_
            refine v_icmp_ne (tgt := 1169) C dL_law_1018 (by decide) (fun c6 => ?_) (fun c6 => ?_)
            · have c6 := (nk_ne (a := kd) 12 (by decide) (by omega) (by decide)).mp c6
              refine v_iload C 4 rfl dL_law_1169 ?_
              refine v_bipush (v := 13) C dL_law_1171 (by decide) ?_
              refine v_icmp_ne (tgt := 1287) C dL_law_1173 (by decide) (fun c7 => ?_) (fun c7 => ?_)
              · have c7 := (nk_ne (a := kd) 13 (by decide) (by omega) (by decide)).mp c7
                refine v_iload C 4 rfl dL_law_1287 ?_
                refine v_bipush (v := 14) C dL_law_1289 (by decide) ?_
                refine v_icmp_ne (tgt := 1419) C dL_law_1291 (by decide) (fun c8 => ?_) (fun c8 => ?_)
                · have c8 := (nk_ne (a := kd) 14 (by decide) (by omega) (by decide)).mp c8
                  refine v_iload C 4 rfl dL_law_1419 ?_
                  refine v_bipush (v := 15) C dL_law_1421 (by decide) ?_
                  refine v_icmp_ne (tgt := 1528) C dL_law_1423 (by decide) (fun c9 => ?_) (fun c9 => ?_)
                  · have c9 := (nk_ne (a := kd) 15 (by decide) (by omega) (by decide)).mp c9
                    refine v_iload C 4 rfl dL_law_1528 ?_
                    refine v_bipush (v := 16) C dL_law_1530 (by decide) ?_
                    refine v_icmp_ne (tgt := 1807) C dL_law_1532 (by decide) (fun c10 => ?_) (fun c10 => ?_)
                    · have c10 := (nk_ne (a := kd) 16 (by decide) (by omega) (by decide)).mp c10
                      refine v_iload C 4 rfl dL_law_1807 ?_
                      refine v_bipush (v := 17) C dL_law_1809 (by decide) ?_
                      refine v_icmp_ne (tgt := 1888) C dL_law_1811 (by decide) (fun c11 => ?_) (fun c11 => ?_)
                      · have c11 := (nk_ne (a := kd) 17 (by decide) (by omega) (by decide)).mp c11
                        exact law_bask hl C hNc cs sl hcs hsl q tm ts up x0 y0 kd li ht0 hq htm hts hup chk next
                      · have c11 := (nk_ne_f (a := kd) 17 (by decide) (by omega) (by decide)).mp c11
                        obtain rfl : kd = 17 := by omega
                        exact law_waive hl C hNc cs sl hcs hsl q tm ts up x0 y0 li ht0 hq htm hts hup chk next
                    · have c10 := (nk_ne_f (a := kd) 16 (by decide) (by omega) (by decide)).mp c10
                      obtain rfl : kd = 16 := by omega
                      exact law_cure hl C hNc cs sl hcs hsl q tm ts up x0 y0 li ht0 hq htm hts hup chk next
                  · have c9 := (nk_ne_f (a := kd) 15 (by decide) (by omega) (by decide)).mp c9
                    obtain rfl : kd = 15 := by omega
                    exact law_wake hl C hNc cs sl hcs hsl q tm ts up x0 y0 li ht0 hq htm hts hup chk next
                · have c8 := (nk_ne_f (a := kd) 14 (by decide) (by omega) (by decide)).mp c8
                  obtain rfl : kd = 14 := by omega
                  exact law_limit hl C hNc cs sl hcs hsl q tm ts up x0 y0 li ht0 hq htm hts hup chk next
              · have c7 := (nk_ne_f (a := kd) 13 (by decide) (by omega) (by decide)).mp c7
                obtain rfl : kd = 13 := by omega
                exact law_test hl C hNc cs sl hcs hsl q tm ts up x0 y0 li ht0 hq htm hts hup chk next
            · have c6 := (nk_ne_f (a := kd) 12 (by decide) (by omega) (by decide)).mp c6
              obtain rfl : kd = 12 := by omega
              exact law_amend hl C hNc cs sl hcs hsl q tm ts up x0 y0 li ht0 hq htm hts hup chk next
          · have c5 := (nk_ge_f (a := kd) 12 (by decide) (by omega) (by decide)).mp c5
            exact law_define hl C hNc cs sl hcs hsl q tm ts up x0 y0 kd li ht0 hq htm hts hup chk next
        · have c4 := (nk_ge_f (a := kd) 10 (by decide) (by omega) (by decide)).mp c4
          rcases (show kd = 8 ∨ kd = 9 by omega) with rfl | rfl
          · exact law_share hl C hNc cs sl hcs hsl q tm ts up x0 y0 li ht0 hq htm hts hup chk next
          · exact law_year hl C hNc cs sl hcs hsl q tm ts up x0 y0 li ht0 hq htm hts hup chk next
      · have c3 := (nk_ge_f (a := kd) 8 (by decide) (by omega) (by decide)).mp c3
        exact law_join hl C hNc cs sl hcs hsl q tm ts up x0 y0 kd li ht0 hq htm hts hup chk next
    · have c2 := (nk_ge_f (a := kd) 5 (by decide) (by omega) (by decide)).mp c2
      rcases (show kd = 2 ∨ kd = 3 ∨ kd = 4 by omega) with rfl | rfl | rfl
      · exact law_account hl C hNc cs sl hcs hsl q tm ts up x0 y0 li ht0 hq htm hts hup chk next
      · exact law_number hl C hNc cs sl hcs hsl q tm ts up x0 y0 li ht0 hq htm hts hup chk next
      · exact law_term hl C hNc cs sl hcs hsl q tm ts up x0 y0 li ht0 hq htm hts hup chk next
  · have c1 := (nk_ge_f (a := kd) 2 (by decide) (by omega) (by decide)).mp c1
    exact law_amount hl C hNc cs sl hcs hsl q tm ts up x0 y0 kd li ht0 hq htm hts hup chk next
set_option maxHeartbeats 8000000 in
set_option maxRecDepth 100000 in
theorem law_turn {zp : Program} {l : Launch} {ze : Env} {zs : State} {zm : MethodId} {zargs : Array Value} {zbelow : List Frame} {zmeth : Method} {zc : Code} {G : zG} (hl : l.stackTraces = false) (C : zOK zp l ze room_1 zs zm zargs zbelow zmeth zc G cL_law 29 RL) (hNc : zNc zs) {Q : State → Prop} {sb t0 : Nat} {h : zH} {g : XGh} {x : Nat} {ad : Nat → Nat} {s : ZS} {F : Nat → Nat} {A D : Nat → Int32} {VV : Nat → Nat} {B U : Nat → Int32} {S : Nat → Nat} {T : Nat → List Tok} {lv : Nat → Nat} {N : Nat} (cs sl : Nat) (hcs : cs + 1300 ≤ 670155) (hsl : sl + 45000 ≤ 7091004) {L0 : Nat} (hSc : zSc G sb L0 zs) (hL0 : L0 ≤ 260) (li : LI G h g x ad s F A D VV B U S T lv N (700 * t0)) (ht0 : t0 < 60)   (next : ∀ (h2 : zH) (g2 : XGh) (s2 : ZS) (F2 : Nat → Nat) (A2 D2 : Nat → Int32) (VV2 : Nat → Nat) (B2 U2 : Nat → Int32) (S2 : Nat → Nat) (T2 : Nat → List Tok) (lv2 : Nat → Nat) (N2 : Nat), LI G h2 g2 x ad s2 F2 A2 D2 VV2 B2 U2 S2 T2 lv2 N2 (700 * (t0 + 1)) → V zp l ze room_1 zs zm zargs zbelow zmeth zc G 29 Q h2 (cs + 1300) (sl + 45000) 2313 [(14, .int (nI t0)), (13, .int (nI (bN s2))), (12, .int (nI (rN s2))), (11, .int (nI (oN s2))), (10, .int (nI (oS s2).length)), (9, .int (nI N2)), (8, .ref (ad 6)), (7, .ref (ad 5)), (6, .ref (ad 4)), (5, .ref (ad 3)), (4, .ref (ad 2)), (3, .ref (ad 1)), (2, .ref (ad 0)), (1, .ref x), (0, .ref sb)] []) : V zp l ze room_1 zs zm zargs zbelow zmeth zc G 29 Q h (cs) (sl) 88 [(14, .int (nI t0)), (13, .int (nI (bN s))), (12, .int (nI (rN s))), (11, .int (nI (oN s))), (10, .int (nI (oS s).length)), (9, .int (nI N)), (8, .ref (ad 6)), (7, .ref (ad 5)), (6, .ref (ad 4)), (5, .ref (ad 3)), (4, .ref (ad 2)), (3, .ref (ad 1)), (2, .ref (ad 0)), (1, .ref x), (0, .ref sb)] [] := by
  obtain ⟨hi, hw, lx, he, hs, hV, hd, hT, hU⟩ := id li
  have hM := he.1
  have hN6 := he.2.1
  have hK8 := hw.1
  have hR2 := hT.1
  have hB2 := hU.1
  refine v_iload C 0 rfl dL_law_88 ?_
  refine v_bipush (v := 60) C dL_law_90 (by decide) ?_
  refine v_icmp_ge (tgt := 2319) C dL_law_92 (by decide) (fun c1 => absurd ((nk_ge (a := t0) 60 (by decide) (by omega) (by decide)).mp c1) (by omega)) (fun c1 => ?_)
  have c1 := (nk_ge_f (a := t0) 60 (by decide) (by omega) (by decide)).mp c1
  refine v_aload_n C 14 rfl dL_law_95 rfl ?_
  refine v_iconst (v := 2) C dL_law_96 (by decide) ?_
  refine v_iload C 0 rfl dL_law_97 ?_
  refine v_imul C dL_law_99 (v_eqi (nI_kml t0 2 (by decide)) ?_)
  refine v_callP (rest := []) C (zSc_last G sb L0) hSc (c_L_cell l hl G sb L0 (2 * t0) h (by omega) (by omega)) S_L_174 rfl rfl (Nat.le_of_ble_eq_true rfl) ⟨Nat.le_of_ble_eq_true rfl, Nat.le_of_ble_eq_true rfl⟩ ⟨by show cs + 0 ≤ 670155; omega, by show sl + 0 ≤ 7091004; omega⟩ dL_law_100 (fun r3 h3 w3 => ?_)
  obtain rfl := w3
  refine v_istore C [(15, .int r3), (14, .int (nI t0)), (13, .int (nI (bN s))), (12, .int (nI (rN s))), (11, .int (nI (oN s))), (10, .int (nI (oS s).length)), (9, .int (nI N)), (8, .ref (ad 6)), (7, .ref (ad 5)), (6, .ref (ad 4)), (5, .ref (ad 3)), (4, .ref (ad 2)), (3, .ref (ad 1)), (2, .ref (ad 0)), (1, .ref x), (0, .ref sb)] rfl (by decide) dL_law_103 ?_
  refine v_aload_n C 15 rfl dL_law_105 rfl ?_
  refine v_iconst (v := 2) C dL_law_106 (by decide) ?_
  refine v_iload C 1 rfl dL_law_107 ?_
  refine v_imul C dL_law_109 (v_eqi (nI_kml t0 2 (by decide)) ?_)
  refine v_iconst (v := 1) C dL_law_110 (by decide) ?_
  refine v_iadd C dL_law_111 (v_eqi (nI_adk (2 * t0) 1 (by decide)) ?_)
  refine v_callP (rest := []) C (zSc_last G sb L0) hSc (c_L_cell l hl G sb L0 (2 * t0 + 1) h (by omega) (by omega)) S_L_174 rfl rfl (Nat.le_of_ble_eq_true rfl) ⟨Nat.le_of_ble_eq_true rfl, Nat.le_of_ble_eq_true rfl⟩ ⟨by show cs + 0 + 0 ≤ 670155; omega, by show sl + 0 + 0 ≤ 7091004; omega⟩ dL_law_112 (fun r6 h6 w6 => ?_)
  obtain rfl := w6
  refine v_istore C [(16, .int r6), (15, .int r3), (14, .int (nI t0)), (13, .int (nI (bN s))), (12, .int (nI (rN s))), (11, .int (nI (oN s))), (10, .int (nI (oS s).length)), (9, .int (nI N)), (8, .ref (ad 6)), (7, .ref (ad 5)), (6, .ref (ad 4)), (5, .ref (ad 3)), (4, .ref (ad 2)), (3, .ref (ad 1)), (2, .ref (ad 0)), (1, .ref x), (0, .ref sb)] rfl (by decide) dL_law_115 ?_
  have M144 : ∀ kd : Nat, kd < 20 → V zp l ze room_1 zs zm zargs zbelow zmeth zc G 29 Q h (cs + 0 + 0) (sl + 0 + 0) 144 [(16, .int r6), (15, .int r3), (14, .int (nI t0)), (13, .int (nI (bN s))), (12, .int (nI (rN s))), (11, .int (nI (oN s))), (10, .int (nI (oS s).length)), (9, .int (nI N)), (8, .ref (ad 6)), (7, .ref (ad 5)), (6, .ref (ad 4)), (5, .ref (ad 3)), (4, .ref (ad 2)), (3, .ref (ad 1)), (2, .ref (ad 0)), (1, .ref x), (0, .ref sb)] [.int (nI kd)] := by
    intro kd hkd
    refine v_istore C [(17, .int (nI kd)), (16, .int r6), (15, .int r3), (14, .int (nI t0)), (13, .int (nI (bN s))), (12, .int (nI (rN s))), (11, .int (nI (oN s))), (10, .int (nI (oS s).length)), (9, .int (nI N)), (8, .ref (ad 6)), (7, .ref (ad 5)), (6, .ref (ad 4)), (5, .ref (ad 3)), (4, .ref (ad 2)), (3, .ref (ad 1)), (2, .ref (ad 0)), (1, .ref x), (0, .ref sb)] rfl (by decide) dL_law_144 ?_
    have M162 : ∀ tm : Nat, (tm < oN s ∨ (oN s = 0 ∧ tm = 0)) → V zp l ze room_1 zs zm zargs zbelow zmeth zc G 29 Q h (cs + 0 + 0) (sl + 0 + 0) 162 [(17, .int (nI kd)), (16, .int r6), (15, .int r3), (14, .int (nI t0)), (13, .int (nI (bN s))), (12, .int (nI (rN s))), (11, .int (nI (oN s))), (10, .int (nI (oS s).length)), (9, .int (nI N)), (8, .ref (ad 6)), (7, .ref (ad 5)), (6, .ref (ad 4)), (5, .ref (ad 3)), (4, .ref (ad 2)), (3, .ref (ad 1)), (2, .ref (ad 0)), (1, .ref x), (0, .ref sb)] [.int (nI tm)] := by
      intro tm htm
      refine v_istore C [(18, .int (nI tm)), (17, .int (nI kd)), (16, .int r6), (15, .int r3), (14, .int (nI t0)), (13, .int (nI (bN s))), (12, .int (nI (rN s))), (11, .int (nI (oN s))), (10, .int (nI (oS s).length)), (9, .int (nI N)), (8, .ref (ad 6)), (7, .ref (ad 5)), (6, .ref (ad 4)), (5, .ref (ad 3)), (4, .ref (ad 2)), (3, .ref (ad 1)), (2, .ref (ad 0)), (1, .ref x), (0, .ref sb)] rfl (by decide) dL_law_162 ?_
      have M180 : ∀ ts : Nat, (ts < rN s ∨ (rN s = 0 ∧ ts = 0)) → V zp l ze room_1 zs zm zargs zbelow zmeth zc G 29 Q h (cs + 0 + 0) (sl + 0 + 0) 180 [(18, .int (nI tm)), (17, .int (nI kd)), (16, .int r6), (15, .int r3), (14, .int (nI t0)), (13, .int (nI (bN s))), (12, .int (nI (rN s))), (11, .int (nI (oN s))), (10, .int (nI (oS s).length)), (9, .int (nI N)), (8, .ref (ad 6)), (7, .ref (ad 5)), (6, .ref (ad 4)), (5, .ref (ad 3)), (4, .ref (ad 2)), (3, .ref (ad 1)), (2, .ref (ad 0)), (1, .ref x), (0, .ref sb)] [.int (nI ts)] := by
        intro ts hts
        refine v_istore C [(19, .int (nI ts)), (18, .int (nI tm)), (17, .int (nI kd)), (16, .int r6), (15, .int r3), (14, .int (nI t0)), (13, .int (nI (bN s))), (12, .int (nI (rN s))), (11, .int (nI (oN s))), (10, .int (nI (oS s).length)), (9, .int (nI N)), (8, .ref (ad 6)), (7, .ref (ad 5)), (6, .ref (ad 4)), (5, .ref (ad 3)), (4, .ref (ad 2)), (3, .ref (ad 1)), (2, .ref (ad 0)), (1, .ref x), (0, .ref sb)] rfl (by decide) dL_law_180 ?_
        refine v_iload C 3 rfl dL_law_182 ?_
        refine v_iconst (v := 3) C dL_law_184 (by decide) ?_
        refine v_ishr C dL_law_185 (v_topi (fun i7 e7 => ?_))
        refine v_bipush (v := 9) C dL_law_186 (by decide) ?_
        refine v_callS (rest := []) C (c_L_low l hl G i7 9 h (by decide) (by omega)) S_L_178 rfl rfl (Nat.le_of_ble_eq_true rfl) ⟨Nat.le_of_ble_eq_true rfl, Nat.le_of_ble_eq_true rfl⟩ ⟨by show cs + 0 + 0 + 0 ≤ 670155; omega, by show sl + 0 + 0 + 0 ≤ 7091004; omega⟩ dL_law_188 (fun i8 h8 q8 => ?_)
        obtain ⟨e8, rfl⟩ := q8
        obtain ⟨u8, hu8, eu8⟩ : ∃ u, u < 9 ∧ lw i7 9 = u := ⟨_, lw_lt (by decide), rfl⟩
        rw [eu8] at e8; subst e8
        refine v_istore C [(20, .int (nI u8)), (19, .int (nI ts)), (18, .int (nI tm)), (17, .int (nI kd)), (16, .int r6), (15, .int r3), (14, .int (nI t0)), (13, .int (nI (bN s))), (12, .int (nI (rN s))), (11, .int (nI (oN s))), (10, .int (nI (oS s).length)), (9, .int (nI N)), (8, .ref (ad 6)), (7, .ref (ad 5)), (6, .ref (ad 4)), (5, .ref (ad 3)), (4, .ref (ad 2)), (3, .ref (ad 1)), (2, .ref (ad 0)), (1, .ref x), (0, .ref sb)] rfl (by decide) dL_law_191 ?_
        have M209 : ∀ up : Nat, (0 < (oS s).length → up = S ((oS s).length - 1)) → V zp l ze room_1 zs zm zargs zbelow zmeth zc G 29 Q h (cs + 0 + 0 + 0) (sl + 0 + 0 + 0) 209 [(20, .int (nI u8)), (19, .int (nI ts)), (18, .int (nI tm)), (17, .int (nI kd)), (16, .int r6), (15, .int r3), (14, .int (nI t0)), (13, .int (nI (bN s))), (12, .int (nI (rN s))), (11, .int (nI (oN s))), (10, .int (nI (oS s).length)), (9, .int (nI N)), (8, .ref (ad 6)), (7, .ref (ad 5)), (6, .ref (ad 4)), (5, .ref (ad 3)), (4, .ref (ad 2)), (3, .ref (ad 1)), (2, .ref (ad 0)), (1, .ref x), (0, .ref sb)] [.int (nI up)] := by
          intro up hup
          refine v_istore C [(21, .int (nI up)), (20, .int (nI u8)), (19, .int (nI ts)), (18, .int (nI tm)), (17, .int (nI kd)), (16, .int r6), (15, .int r3), (14, .int (nI t0)), (13, .int (nI (bN s))), (12, .int (nI (rN s))), (11, .int (nI (oN s))), (10, .int (nI (oS s).length)), (9, .int (nI N)), (8, .ref (ad 6)), (7, .ref (ad 5)), (6, .ref (ad 4)), (5, .ref (ad 3)), (4, .ref (ad 2)), (3, .ref (ad 1)), (2, .ref (ad 0)), (1, .ref x), (0, .ref sb)] rfl (by decide) dL_law_209 ?_
          refine v_lvp [0, 1, 2, 3, 4, 5, 6, 7, 8, 9, 10, 11, 12, 13, 14, 15, 16, 17, 18, 19, 20, 21] rfl ?_
          exact law_disp hl C hNc cs sl hcs hsl u8 tm ts up r3 r6 kd li ht0 (by omega) htm hts hup hkd (fun h2 g2 s2 F2 A2 D2 VV2 B2 U2 S2 T2 lv2 N2 li2 => law_check hl C hNc cs sl hcs hsl u8 r6 li2 ht0 (by omega) next) next
        refine v_iload C 10 rfl dL_law_193 ?_
        refine v_if_ne (tgt := 202) C dL_law_195 (by decide) (fun c9 => ?_) (fun c9 => ?_)
        · have c9 := (nk_ne (a := (oS s).length) 0 (by decide) (by omega) (by decide)).mp c9
          refine v_aload C 12 rfl dL_law_202 ?_
          refine v_iload C 10 rfl dL_law_204 ?_
          refine v_iconst (v := 1) C dL_law_206 (by decide) ?_
          refine v_isub C dL_law_207 (v_eqi (nI_sbk (a := (oS s).length) 1 (by decide) (by omega)) ?_)
          refine v_iald C (lx.1.2.2.2.2.2.2) (vpin (show (oS s).length - 1 < 8 by omega) (by decide)) dL_law_208 (v_eqi (y := nI (S ((oS s).length - 1))) (congrArg (fun j => nI (S j)) (nI_clamp (show (oS s).length - 1 < 2 ^ 31 by omega))) ?_)
          exact M209 (S ((oS s).length - 1)) (fun _ => rfl)
        · have c9 := (nk_ne_f (a := (oS s).length) 0 (by decide) (by omega) (by decide)).mp c9
          refine v_iconst (v := 0) C dL_law_198 (by decide) ?_
          refine v_goto (tgt := 209) C dL_law_199 (by decide) ?_
          exact M209 0 (fun z => absurd z (by omega))
      refine v_iload C 6 rfl dL_law_164 ?_
      refine v_if_ne (tgt := 173) C dL_law_166 (by decide) (fun c11 => ?_) (fun c11 => ?_)
      · have c11 := (nk_ne (a := (rN s)) 0 (by decide) (by omega) (by decide)).mp c11
        refine v_iload C 2 rfl dL_law_173 ?_
        refine v_iload C 6 rfl dL_law_175 ?_
        refine v_callS (rest := []) C (c_L_low l hl G r6 (rN s) h (by omega) (by omega)) S_L_178 rfl rfl (Nat.le_of_ble_eq_true rfl) ⟨Nat.le_of_ble_eq_true rfl, Nat.le_of_ble_eq_true rfl⟩ ⟨by show cs + 0 + 0 + 0 ≤ 670155; omega, by show sl + 0 + 0 + 0 ≤ 7091004; omega⟩ dL_law_177 (fun i12 h12 q12 => ?_)
        obtain ⟨e12, rfl⟩ := q12
        obtain ⟨u12, hu12, eu12⟩ : ∃ u, u < rN s ∧ lw r6 (rN s) = u := ⟨_, lw_lt (by omega), rfl⟩
        rw [eu12] at e12; subst e12
        exact M180 u12 (by omega)
      · have c11 := (nk_ne_f (a := (rN s)) 0 (by decide) (by omega) (by decide)).mp c11
        refine v_iconst (v := 0) C dL_law_169 (by decide) ?_
        refine v_goto (tgt := 180) C dL_law_170 (by decide) ?_
        exact M180 0 (by omega)
    refine v_iload C 6 rfl dL_law_146 ?_
    refine v_if_ne (tgt := 155) C dL_law_148 (by decide) (fun c13 => ?_) (fun c13 => ?_)
    · have c13 := (nk_ne (a := (oN s)) 0 (by decide) (by omega) (by decide)).mp c13
      refine v_iload C 1 rfl dL_law_155 ?_
      refine v_iload C 6 rfl dL_law_157 ?_
      refine v_callS (rest := []) C (c_L_low l hl G r6 (oN s) h (by omega) (by omega)) S_L_178 rfl rfl (Nat.le_of_ble_eq_true rfl) ⟨Nat.le_of_ble_eq_true rfl, Nat.le_of_ble_eq_true rfl⟩ ⟨by show cs + 0 + 0 + 0 ≤ 670155; omega, by show sl + 0 + 0 + 0 ≤ 7091004; omega⟩ dL_law_159 (fun i14 h14 q14 => ?_)
      obtain ⟨e14, rfl⟩ := q14
      obtain ⟨u14, hu14, eu14⟩ : ∃ u, u < oN s ∧ lw r6 (oN s) = u := ⟨_, lw_lt (by omega), rfl⟩
      rw [eu14] at e14; subst e14
      exact M162 u14 (by omega)
    · have c13 := (nk_ne_f (a := (oN s)) 0 (by decide) (by omega) (by decide)).mp c13
      refine v_iconst (v := 0) C dL_law_151 (by decide) ?_
      refine v_goto (tgt := 162) C dL_law_152 (by decide) ?_
      exact M162 0 (by omega)
  refine v_iload C 2 rfl dL_law_117 ?_
  refine v_if_ne (tgt := 126) C dL_law_119 (by decide) (fun c15 => ?_) (fun c15 => ?_)
  · have c15 := (nk_ne (a := t0) 0 (by decide) (by omega) (by decide)).mp c15
    refine v_iload C 2 rfl dL_law_126 ?_
    refine v_iconst (v := 1) C dL_law_128 (by decide) ?_
    refine v_icmp_ne (tgt := 137) C dL_law_129 (by decide) (fun c16 => ?_) (fun c16 => ?_)
    · have c16 := (nk_ne (a := t0) 1 (by decide) (by omega) (by decide)).mp c16
      refine v_iload C 1 rfl dL_law_137 ?_
      refine v_bipush (v := 20) C dL_law_139 (by decide) ?_
      refine v_callS (rest := []) C (c_L_low l hl G r3 20 h (by decide) (by omega)) S_L_178 rfl rfl (Nat.le_of_ble_eq_true rfl) ⟨Nat.le_of_ble_eq_true rfl, Nat.le_of_ble_eq_true rfl⟩ ⟨by show cs + 0 + 0 + 0 ≤ 670155; omega, by show sl + 0 + 0 + 0 ≤ 7091004; omega⟩ dL_law_141 (fun i17 h17 q17 => ?_)
      obtain ⟨e17, rfl⟩ := q17
      obtain ⟨u17, hu17, eu17⟩ : ∃ u, u < 20 ∧ lw r3 20 = u := ⟨_, lw_lt (by decide), rfl⟩
      rw [eu17] at e17; subst e17
      exact M144 u17 (by omega)
    · have c16 := (nk_ne_f (a := t0) 1 (by decide) (by omega) (by decide)).mp c16
      refine v_bipush (v := 10) C dL_law_132 (by decide) ?_
      refine v_goto (tgt := 144) C dL_law_134 (by decide) ?_
      exact M144 10 (by omega)
  · have c15 := (nk_ne_f (a := t0) 0 (by decide) (by omega) (by decide)).mp c15
    refine v_iconst (v := 2) C dL_law_122 (by decide) ?_
    refine v_goto (tgt := 144) C dL_law_123 (by decide) ?_
    exact M144 2 (by omega)
theorem law_loop {zp : Program} {l : Launch} {ze : Env} {zs : State} {zm : MethodId} {zargs : Array Value} {zbelow : List Frame} {zmeth : Method} {zc : Code} {G : zG} (hl : l.stackTraces = false) (C : zOK zp l ze room_1 zs zm zargs zbelow zmeth zc G cL_law 29 RL) (hNc : zNc zs) {Q : State → Prop} {sb L0 : Nat} (hSc : zSc G sb L0 zs) (hL0 : L0 ≤ 260) {x : Nat} {ad : Nat → Nat} (fin : ∀ (h2 : zH) (lv2 : List (Nat × Value)), V zp l ze room_1 zs zm zargs zbelow zmeth zc G 29 Q h2 670155 7091004 2320 lv2 [.int 1]) : ∀ (n t0 : Nat) (h : zH) (g : XGh) (s : ZS) (F : Nat → Nat) (A D : Nat → Int32) (VV : Nat → Nat) (B U : Nat → Int32) (S : Nat → Nat) (T : Nat → List Tok) (lv : Nat → Nat) (N : Nat), t0 + n = 60 → LI G h g x ad s F A D VV B U S T lv N (700 * t0) → V zp l ze room_1 zs zm zargs zbelow zmeth zc G 29 Q h (1000 + 1300 * t0) (10000 + 45000 * t0) 88 [(14, .int (nI t0)), (13, .int (nI (bN s))), (12, .int (nI (rN s))), (11, .int (nI (oN s))), (10, .int (nI (oS s).length)), (9, .int (nI N)), (8, .ref (ad 6)), (7, .ref (ad 5)), (6, .ref (ad 4)), (5, .ref (ad 3)), (4, .ref (ad 2)), (3, .ref (ad 1)), (2, .ref (ad 0)), (1, .ref x), (0, .ref sb)] [] := by
  intro n
  induction n with
  | zero =>
    intro t0 h g s F A D VV B U S T lv N hn li
    obtain rfl : t0 = 60 := by omega
    refine v_iload C 0 rfl dL_law_88 ?_
    refine v_bipush (v := 60) C dL_law_90 (by decide) ?_
    refine v_icmp_ge (tgt := 2319) C dL_law_92 (by decide) (fun c => ?_) (fun c => absurd (by decide) c)
    refine v_iconst (v := 1) C dL_law_2319 (by decide) ?_
    exact v_widen (by omega) (by omega) (fin _ _)
  | succ n ih =>
    intro t0 h g s F A D VV B U S T lv N hn li
    refine law_turn hl C hNc (1000 + 1300 * t0) (10000 + 45000 * t0) (by omega) (by omega) hSc hL0 li (by omega) (fun h2 g2 s2 F2 A2 D2 VV2 B2 U2 S2 T2 lv2 N2 li2 => ?_)
    refine v_iinc C 0 [(14, .int (nI (t0 + 1))), (13, .int (nI (bN s2))), (12, .int (nI (rN s2))), (11, .int (nI (oN s2))), (10, .int (nI (oS s2).length)), (9, .int (nI N2)), (8, .ref (ad 6)), (7, .ref (ad 5)), (6, .ref (ad 4)), (5, .ref (ad 3)), (4, .ref (ad 2)), (3, .ref (ad 1)), (2, .ref (ad 0)), (1, .ref x), (0, .ref sb)] rfl (nI_inc t0 1 (by decide)) rfl (by decide) dL_law_2313 ?_
    refine v_goto (tgt := 88) C dL_law_2316 (by decide) ?_
    exact v_widen (by omega) (by omega) (ih (t0 + 1) h2 g2 s2 F2 A2 D2 VV2 B2 U2 S2 T2 lv2 N2 (by omega) li2)

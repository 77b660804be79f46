set_option maxHeartbeats 8000000 in
set_option maxRecDepth 100000 in
theorem law_bloop {zp : Program} {l : Launch} {ze : Env} {zs : State} {zm : MethodId} {zargs : Array Value} {zbelow : List Frame} {zmeth : Method} {zc : Code} {G : zG} (hl : l.stackTraces = false) (C : zOK zp l ze room_1 zs zm zargs zbelow zmeth zc G cL_law 29 RL) (hNc : zNc zs) {Q : State → Prop} {sb t0 : Nat} {h : zH} {g : XGh} {x : Nat} {ad : Nat → Nat} {s : ZS} {F : Nat → Nat} {A D : Nat → Int32} {VV : Nat → Nat} {B U : Nat → Int32} {S : Nat → Nat} {T : Nat → List Tok} {lv : Nat → Nat} {N : Nat} (cs sl : Nat) (hcs : cs + 1300 ≤ 670155) (hsl : sl + 45000 ≤ 7091004) (q : Nat) (y0 : Int32) (li : LI G h g x ad s F A D VV B U S T lv N (700 * (t0 + 1))) (ht0 : t0 < 60) (hq : q < 9) (hlow : ∀ j, j < 2 → (U (4 * j + 3)).toInt ≤ ((700 * t0 : Nat) : Int)) (chk : ∀ (h2 : zH) (g2 : XGh) (s2 : ZS) (F2 : Nat → Nat) (A2 D2 : Nat → Int32) (VV2 : Nat → Nat) (B2 U2 : Nat → Int32) (S2 : Nat → Nat) (T2 : Nat → List Tok) (lv2 : Nat → Nat) (N2 : Nat), LI G h2 g2 x ad s2 F2 A2 D2 VV2 B2 U2 S2 T2 lv2 N2 (700 * (t0 + 1)) → V zp l ze room_1 zs zm zargs zbelow zmeth zc G 29 Q h2 (cs + 200) (sl + 20000) 2268 [(20, .int (nI q)), (16, .int y0), (14, .int (nI t0)), (13, .int (nI (bN s2))), (12, .int (nI (rN s2))), (11, .int (nI (oN s2))), (10, .int (nI (oS s2).length)), (9, .int (nI N2)), (8, .ref (ad 6)), (7, .ref (ad 5)), (6, .ref (ad 4)), (5, .ref (ad 3)), (4, .ref (ad 2)), (3, .ref (ad 1)), (2, .ref (ad 0)), (1, .ref x), (0, .ref sb)] []) (next : ∀ (h2 : zH) (g2 : XGh) (s2 : ZS) (F2 : Nat → Nat) (A2 D2 : Nat → Int32) (VV2 : Nat → Nat) (B2 U2 : Nat → Int32) (S2 : Nat → Nat) (T2 : Nat → List Tok) (lv2 : Nat → Nat) (N2 : Nat), LI G h2 g2 x ad s2 F2 A2 D2 VV2 B2 U2 S2 T2 lv2 N2 (700 * (t0 + 1)) → V zp l ze room_1 zs zm zargs zbelow zmeth zc G 29 Q h2 (cs + 1300) (sl + 45000) 2313 [(14, .int (nI t0)), (13, .int (nI (bN s2))), (12, .int (nI (rN s2))), (11, .int (nI (oN s2))), (10, .int (nI (oS s2).length)), (9, .int (nI N2)), (8, .ref (ad 6)), (7, .ref (ad 5)), (6, .ref (ad 4)), (5, .ref (ad 3)), (4, .ref (ad 2)), (3, .ref (ad 1)), (2, .ref (ad 0)), (1, .ref x), (0, .ref sb)] []) : V zp l ze room_1 zs zm zargs zbelow zmeth zc G 29 Q h (cs + 50) (sl + 9000) 2000 [(22, .int (nI 0)), (20, .int (nI q)), (16, .int y0), (14, .int (nI t0)), (13, .int (nI (bN s))), (12, .int (nI (rN s))), (11, .int (nI (oN s))), (10, .int (nI (oS s).length)), (9, .int (nI N)), (8, .ref (ad 6)), (7, .ref (ad 5)), (6, .ref (ad 4)), (5, .ref (ad 3)), (4, .ref (ad 2)), (3, .ref (ad 1)), (2, .ref (ad 0)), (1, .ref x), (0, .ref sb)] [] := by
  obtain ⟨hi, hw, lx, he, hs, hV, hd, hT, hU⟩ := id li
  have hM := he.1
  have hN6 := he.2.1
  have hK8 := hw.1
  have hR2 := hT.1
  have hB2 := hU.1
  have L1 : ∀ (d : Nat) (k : Nat) (h2 : zH) (g2 : XGh) (s2 : ZS) (U2 : Nat → Int32), (k ≤ 2) → (k ≤ bN s2) → (LI G h2 g2 x ad s2 F A D VV B U2 S T lv N (700 * (t0 + 1))) → (∀ j, k ≤ j → j < 2 → (U2 (4 * j + 3)).toInt ≤ ((700 * t0 : Nat) : Int)) → (2 < k + d) → V zp l ze room_1 zs zm zargs zbelow zmeth zc G 29 Q h2 (cs + 50 + 40 * k) (sl + 9000 + 1000 * k) 2000 [(22, .int (nI k)), (20, .int (nI q)), (16, .int y0), (14, .int (nI t0)), (13, .int (nI (bN s2))), (12, .int (nI (rN s2))), (11, .int (nI (oN s2))), (10, .int (nI (oS s2).length)), (9, .int (nI N)), (8, .ref (ad 6)), (7, .ref (ad 5)), (6, .ref (ad 4)), (5, .ref (ad 3)), (4, .ref (ad 2)), (3, .ref (ad 1)), (2, .ref (ad 0)), (1, .ref x), (0, .ref sb)] [] := by
    intro d
    induction d with
    | zero =>
      intro k h2 g2 s2 U2 hk2 hkb li2 hlow2 hd
      exact absurd hd (by omega)
    | succ d ih1 =>
      intro k h2 g2 s2 U2 hk2 hkb li2 hlow2 hd
      refine v_iload C 0 rfl dL_law_2000 ?_
      obtain ⟨hi2, hw2, lx2, he2, hs2, hV2, hd2, hT2, hU2⟩ := id li2
      have hM2 := he2.1
      have hN62 := he2.2.1
      have hK82 := hw2.1
      have hR22 := hT2.1
      have hB22 := hU2.1
      refine v_iload C 4 rfl dL_law_2002 ?_
      refine v_icmp_ge (tgt := 2268) C dL_law_2004 (by decide) (fun c2 => ?_) (fun c2 => ?_)
      · have c2 := (nn_ge (a := k) (b := (bN s2)) (by omega) (by omega)).mp c2
        refine v_lvp [1, 2, 3, 4, 5, 6, 7, 8, 9, 10, 11, 12, 13, 14, 15, 16, 17] rfl ?_
        exact v_widen (by omega) (by omega) (chk _ _ _ _ _ _ _ _ _ _ _ _ _ li2)
      · have c2 := (nn_ge_f (a := k) (b := (bN s2)) (by omega) (by omega)).mp c2
        obtain ⟨hu0, hu3, hu4, hu5⟩ := hU2.2 k (by omega)
        obtain ⟨ub0, ub1, ub2⟩ := hu0 (by omega)
        obtain ⟨hbT, hbF, hbP⟩ := hw2.2.2.2.2.2.2.1 k (by omega)
        obtain ⟨us, hus, eus⟩ := i32_nat hu4 (hlow2 k (Nat.le_refl _) (by omega)) (by omega)
        have hu3n : bU s2 k = lN64 us := by rw [← hu3, eus]; rfl
        have hbd := oV_bnd hw2 hbT (show q < 20 by omega)
        refine v_iconst (v := 1) C dL_law_2007 (by decide) ?_
        refine v_iload C 2 rfl dL_law_2008 ?_
        refine v_bipush (v := 8) C dL_law_2010 (by decide) ?_
        refine v_ishr C dL_law_2012 (v_topi (fun i3 e3 => ?_))
        refine v_sipush (v := 700) C dL_law_2013 (by decide) ?_
        refine v_callS (rest := [.int 1]) C (c_L_low l hl G i3 700 h2 (by decide) (by omega)) S_L_178 rfl rfl (Nat.le_of_ble_eq_true rfl) ⟨Nat.le_of_ble_eq_true rfl, Nat.le_of_ble_eq_true rfl⟩ ⟨by show cs + 50 + 40 * k + 0 ≤ 670155; omega, by show sl + 9000 + 1000 * k + 0 ≤ 7091004; omega⟩ dL_law_2016 (fun i4 h4 q4 => ?_)
        obtain ⟨e4, rfl⟩ := q4
        obtain ⟨u4, hu4, eu4⟩ : ∃ u, u < 700 ∧ lw i3 700 = u := ⟨_, lw_lt (by decide), rfl⟩
        rw [eu4] at e4; subst e4
        refine v_iadd C dL_law_2019 (v_eqi (nI_kad u4 1 (by decide)) ?_)
        refine v_istore C [(23, .int (nI (1 + u4))), (22, .int (nI k)), (20, .int (nI q)), (16, .int y0), (14, .int (nI t0)), (13, .int (nI (bN s2))), (12, .int (nI (rN s2))), (11, .int (nI (oN s2))), (10, .int (nI (oS s2).length)), (9, .int (nI N)), (8, .ref (ad 6)), (7, .ref (ad 5)), (6, .ref (ad 4)), (5, .ref (ad 3)), (4, .ref (ad 2)), (3, .ref (ad 1)), (2, .ref (ad 0)), (1, .ref x), (0, .ref sb)] rfl (by decide) dL_law_2020 ?_
        refine v_aload C 11 rfl dL_law_2022 ?_
        refine v_iconst (v := 4) C dL_law_2024 (by decide) ?_
        refine v_iload C 1 rfl dL_law_2025 ?_
        refine v_imul C dL_law_2027 (v_eqi (nI_kml k 4 (by decide)) ?_)
        refine v_iconst (v := 1) C dL_law_2028 (by decide) ?_
        refine v_iadd C dL_law_2029 (v_eqi (nI_adk (4 * k) 1 (by decide)) ?_)
        refine v_iald C (lx2.1.2.2.2.2.2.1) (vpin (show 4 * k + 1 < 8 by omega) (by decide)) dL_law_2030 (v_eqi (y := (nI (bT s2 k))) ((congrArg U2 (nI_clamp (show 4 * k + 1 < 2 ^ 31 by omega))).trans (ub1)) ?_)
        refine v_iload C 2 rfl dL_law_2031 ?_
        refine v_aload_n C 16 rfl dL_law_2033 rfl ?_
        refine v_aload_n C 15 rfl dL_law_2034 rfl ?_
        refine v_aload C 14 rfl dL_law_2035 ?_
        refine v_callS (rest := []) C (c_L_value l hl G (ad 0) (ad 1) (ad 2) (bT s2 k) q N F A D T lv s2 h2 hw2 he2 lx2.1.1 lx2.1.2.1 lx2.1.2.2.1 hbT hq) S_L_138 rfl rfl (Nat.le_of_ble_eq_true rfl) ⟨Nat.le_of_ble_eq_true rfl, Nat.le_of_ble_eq_true rfl⟩ ⟨by show cs + 50 + 40 * k + 0 + 0 ≤ 670155; omega, by show sl + 9000 + 1000 * k + 0 + 0 ≤ 7091004; omega⟩ dL_law_2037 (fun l8 h8 q8 => ?_)
        obtain ⟨e8, rfl⟩ := q8; subst e8
        refine v_lstore C [(24, .long (oV s2 (bT s2 k) q)), (23, .int (nI (1 + u4))), (22, .int (nI k)), (20, .int (nI q)), (16, .int y0), (14, .int (nI t0)), (13, .int (nI (bN s2))), (12, .int (nI (rN s2))), (11, .int (nI (oN s2))), (10, .int (nI (oS s2).length)), (9, .int (nI N)), (8, .ref (ad 6)), (7, .ref (ad 5)), (6, .ref (ad 4)), (5, .ref (ad 3)), (4, .ref (ad 2)), (3, .ref (ad 1)), (2, .ref (ad 0)), (1, .ref x), (0, .ref sb)] rfl (by decide) dL_law_2040 ?_
        refine v_aload C 12 rfl dL_law_2042 ?_
        refine v_iconst (v := 4) C dL_law_2044 (by decide) ?_
        refine v_iload C 2 rfl dL_law_2045 ?_
        refine v_imul C dL_law_2047 (v_eqi (nI_kml k 4 (by decide)) ?_)
        refine v_iald C (lx2.1.2.2.2.2.2.1) (vpin (show 4 * k < 8 by omega) (by decide)) dL_law_2048 (v_eqi (y := (bF s2 k)) ((congrArg U2 (nI_clamp (show 4 * k < 2 ^ 31 by omega))).trans (ub0)) ?_)
        refine v_i2l (v := ((bF s2 k) : Int32).toInt64) C dL_law_2049 rfl ?_
        refine v_lload C 0 rfl dL_law_2050 ?_
        refine v_lconst (v := 0) C dL_law_2052 (by decide) ?_
        refine v_lcmp C dL_law_2053 ?_
        refine v_if_le (tgt := 2077) C dL_law_2054 (by decide) (fun c10 => ?_) (fun c10 => ?_)
        · have c10 := (lgc_le (oV s2 (bT s2 k) q) 0).mp c10
          refine v_lconst (v := 0) C dL_law_2077 (by decide) ?_
          refine v_ladd C dL_law_2078 (v_eql (y := (bSize s2 k q)) (bs_no (Int64.not_lt.mpr c10)) ?_)
          refine v_lstore C [(26, .long (bSize s2 k q)), (24, .long (oV s2 (bT s2 k) q)), (23, .int (nI (1 + u4))), (22, .int (nI k)), (20, .int (nI q)), (16, .int y0), (14, .int (nI t0)), (13, .int (nI (bN s2))), (12, .int (nI (rN s2))), (11, .int (nI (oN s2))), (10, .int (nI (oS s2).length)), (9, .int (nI N)), (8, .ref (ad 6)), (7, .ref (ad 5)), (6, .ref (ad 4)), (5, .ref (ad 3)), (4, .ref (ad 2)), (3, .ref (ad 1)), (2, .ref (ad 0)), (1, .ref x), (0, .ref sb)] rfl (by decide) dL_law_2079 ?_
          refine v_iload C 5 rfl dL_law_2081 ?_
          refine v_bipush (v := 20) C dL_law_2083 (by decide) ?_
          refine v_ishr C dL_law_2085 (v_topi (fun i12 e12 => ?_))
          refine v_iconst (v := 3) C dL_law_2086 (by decide) ?_
          refine v_callS (rest := []) C (c_L_low l hl G i12 3 h2 (by decide) (by omega)) S_L_178 rfl rfl (Nat.le_of_ble_eq_true rfl) ⟨Nat.le_of_ble_eq_true rfl, Nat.le_of_ble_eq_true rfl⟩ ⟨by show cs + 50 + 40 * k + 0 + 0 + 0 ≤ 670155; omega, by show sl + 9000 + 1000 * k + 0 + 0 + 0 ≤ 7091004; omega⟩ dL_law_2087 (fun i13 h13 q13 => ?_)
          obtain ⟨e13, rfl⟩ := q13
          obtain ⟨u13, hu13, eu13⟩ : ∃ u, u < 3 ∧ lw i12 3 = u := ⟨_, lw_lt (by decide), rfl⟩
          rw [eu13] at e13; subst e13
          refine v_if_ne (tgt := 2097) C dL_law_2090 (by decide) (fun c14 => ?_) (fun c14 => ?_)
          · have c14 := (nk_ne (a := u13) 0 (by decide) (by omega) (by decide)).mp c14
            refine v_iconst (v := 0) C dL_law_2097 (by decide) ?_
            refine v_istore C [(28, .int 0), (26, .long (bSize s2 k q)), (24, .long (oV s2 (bT s2 k) q)), (23, .int (nI (1 + u4))), (22, .int (nI k)), (20, .int (nI q)), (16, .int y0), (14, .int (nI t0)), (13, .int (nI (bN s2))), (12, .int (nI (rN s2))), (11, .int (nI (oN s2))), (10, .int (nI (oS s2).length)), (9, .int (nI N)), (8, .ref (ad 6)), (7, .ref (ad 5)), (6, .ref (ad 4)), (5, .ref (ad 3)), (4, .ref (ad 2)), (3, .ref (ad 1)), (2, .ref (ad 0)), (1, .ref x), (0, .ref sb)] rfl (by decide) dL_law_2098 ?_
            refine v_aload_n C 20 rfl dL_law_2100 rfl ?_
            refine v_iload C 4 rfl dL_law_2101 ?_
            refine v_iload C 5 rfl dL_law_2103 ?_
            refine v_callVX (rest := []) C (c_X4_size l hl G x g2 s2 (nI k) (nI q) h2 hi2 hw2) K_L_210 hi2.1.1.1 rfl rfl (Nat.le_of_ble_eq_true rfl) ⟨Nat.le_of_ble_eq_true rfl, Nat.le_of_ble_eq_true rfl⟩ ⟨by show cs + 50 + 40 * k + 0 + 0 + 0 + 10 ≤ 670155; omega, by show sl + 9000 + 1000 * k + 0 + 0 + 0 + 200 ≤ 7091004; omega⟩ dL_law_2105 (fun r15 h15 w15 => ?_) (fun E15 h15 w15 => ?_)
            · obtain ⟨-, er15, g15, xi15, fz15⟩ := w15
              have lw15 := lx2.fr fz15
              have fr15 := fz15
              replace er15 := er15.trans (by rw [cl_nI (show k < 2 ^ 31 by omega), cl_nI (show q < 2 ^ 31 by omega)])
              subst er15
              refine v_lload C 1 rfl dL_law_2108 ?_
              refine v_lcmp C dL_law_2110 ?_
              refine v_if_eq (tgt := 2116) C dL_law_2111 (by decide) (fun c16 => ?_) (fun c16 => absurd ((lgc_eq _ _).mpr rfl) c16)
              have c16 := (lgc_eq (bSize s2 k q) (bSize s2 k q)).mp c16
              refine v_iload C 0 rfl dL_law_2116 ?_
              refine v_if_eq (tgt := 2138) C dL_law_2118 (by decide) (fun c17 => ?_) (fun c17 => absurd c17 (by decide))
              refine v_aload C 14 rfl dL_law_2138 ?_
              refine v_iconst (v := 4) C dL_law_2140 (by decide) ?_
              refine v_iload C 4 rfl dL_law_2141 ?_
              refine v_imul C dL_law_2143 (v_eqi (nI_kml k 4 (by decide)) ?_)
              refine v_iconst (v := 3) C dL_law_2144 (by decide) ?_
              refine v_iadd C dL_law_2145 (v_eqi (nI_adk (4 * k) 3 (by decide)) ?_)
              refine v_iald C (lw15.1.2.2.2.2.2.1) (vpin (show 4 * k + 3 < 8 by omega) (by decide)) dL_law_2146 (v_eqi (y := (nI us)) ((congrArg U2 (nI_clamp (show 4 * k + 3 < 2 ^ 31 by omega))).trans (eus)) ?_)
              refine v_iload C 3 rfl dL_law_2147 ?_
              refine v_iadd C dL_law_2149 (v_eqi (nI_add us (1 + u4)) ?_)
              refine v_i2l (v := lN64 (us + (1 + u4))) C dL_law_2150 rfl ?_
              refine v_lload C 1 rfl dL_law_2151 ?_
              refine v_lcmp C dL_law_2153 ?_
              refine v_if_le (tgt := 2195) C dL_law_2154 (by decide) (fun c21 => ?_) (fun c21 => ?_)
              · have c21 := (lgc_le (lN64 (us + (1 + u4))) (bSize s2 k q)).mp c21
                refine v_aload C 14 rfl dL_law_2195 ?_
                refine v_iconst (v := 4) C dL_law_2197 (by decide) ?_
                refine v_iload C 4 rfl dL_law_2198 ?_
                refine v_imul C dL_law_2200 (v_eqi (nI_kml k 4 (by decide)) ?_)
                refine v_iconst (v := 3) C dL_law_2201 (by decide) ?_
                refine v_iadd C dL_law_2202 (v_eqi (nI_adk (4 * k) 3 (by decide)) ?_)
                refine v_dup2_11 C dL_law_2203 rfl rfl ?_
                refine v_iald C (lw15.1.2.2.2.2.2.1) (vpin (show 4 * k + 3 < 8 by omega) (by decide)) dL_law_2204 (v_eqi (y := (nI us)) ((congrArg U2 (nI_clamp (show 4 * k + 3 < 2 ^ 31 by omega))).trans (eus)) ?_)
                refine v_iload C 0 rfl dL_law_2205 ?_
                refine v_if_eq (tgt := 2216) C dL_law_2207 (by decide) (fun c24 => ?_) (fun c24 => absurd c24 (by decide))
                refine v_iload C 3 rfl dL_law_2216 ?_
                refine v_iadd C dL_law_2218 (v_eqi (nI_add us (1 + u4)) ?_)
                refine v_iast C (lw15.1.2.2.2.2.2.1) (vpin (show 4 * k + 3 < 8 by omega) (by decide)) dL_law_2219 (v_nw (fun h26 eh26 => ?_))
                have lw26 := lw15.p5 (i := 4 * k + 3) (y := (nI (us + (1 + u4)))) (by omega) eh26
                have xi26 := lw15.xi xi15 (i := 5) (by decide) eh26
                refine v_iload C 0 rfl dL_law_2220 ?_
                refine v_if_eq (tgt := 2236) C dL_law_2222 (by decide) (fun c27 => ?_) (fun c27 => absurd c27 (by decide))
                refine v_aload_n C 20 rfl dL_law_2236 rfl ?_
                refine v_iload C 4 rfl dL_law_2237 ?_
                refine v_iload C 5 rfl dL_law_2239 ?_
                refine v_iload C 3 rfl dL_law_2241 ?_
                refine v_callVX (rest := []) C (c_X4_use l hl G x g15 s2 (nI k) (nI q) (nI (1 + u4)) h26 xi26 hw2) K_L_118 xi26.1.1.1 rfl rfl (Nat.le_of_ble_eq_true rfl) ⟨Nat.le_of_ble_eq_true rfl, Nat.le_of_ble_eq_true rfl⟩ ⟨by show cs + 50 + 40 * k + 0 + 0 + 0 + 10 + 10 ≤ 670155; omega, by show sl + 9000 + 1000 * k + 0 + 0 + 0 + 200 + 200 ≤ 7091004; omega⟩ dL_law_2243 (fun r28 h28 w28 => ?_) (fun E28 h28 w28 => ?_)
                · obtain ⟨-, er28, g28, xi28, fz28⟩ := w28
                  have lw28 := lw26.fr fz28
                  have fr28 := fz28
                  replace er28 := er28.trans (show bU s2 (cl (nI k)) + (nI (1 + u4)).toInt64 = lN64 (us + (1 + u4)) by rw [cl_nI (show k < 2 ^ 31 by omega), hu3n]; exact lq_add (by omega))
                  subst er28
                  refine v_aload C 14 rfl dL_law_2246 ?_
                  refine v_iconst (v := 4) C dL_law_2248 (by decide) ?_
                  refine v_iload C 4 rfl dL_law_2249 ?_
                  refine v_imul C dL_law_2251 (v_eqi (nI_kml k 4 (by decide)) ?_)
                  refine v_iconst (v := 3) C dL_law_2252 (by decide) ?_
                  refine v_iadd C dL_law_2253 (v_eqi (nI_adk (4 * k) 3 (by decide)) ?_)
                  refine v_iald C (lw28.1.2.2.2.2.2.1) (vpin (show 4 * k + 3 < 8 by omega) (by decide)) dL_law_2254 (v_eqi (y := (nI (us + (1 + u4)))) ((congrArg (up2 U2 (4 * k + 3) (nI (us + (1 + u4)))) (nI_clamp (show 4 * k + 3 < 2 ^ 31 by omega))).trans (up2_s)) ?_)
                  refine v_i2l (v := lN64 (us + (1 + u4))) C dL_law_2255 rfl ?_
                  refine v_lcmp C dL_law_2256 ?_
                  refine v_if_eq (tgt := 2262) C dL_law_2257 (by decide) (fun c31 => ?_) (fun c31 => absurd ((lgc_eq _ _).mpr rfl) c31)
                  have c31 := (lgc_eq (lN64 (us + (1 + u4))) (lN64 (us + (1 + u4)))).mp c31
                  refine v_iinc C 4 [(22, .int (nI (k + 1))), (28, .int 0), (26, .long (bSize s2 k q)), (24, .long (oV s2 (bT s2 k) q)), (23, .int (nI (1 + u4))), (20, .int (nI q)), (16, .int y0), (14, .int (nI t0)), (13, .int (nI (bN s2))), (12, .int (nI (rN s2))), (11, .int (nI (oN s2))), (10, .int (nI (oS s2).length)), (9, .int (nI N)), (8, .ref (ad 6)), (7, .ref (ad 5)), (6, .ref (ad 4)), (5, .ref (ad 3)), (4, .ref (ad 2)), (3, .ref (ad 1)), (2, .ref (ad 0)), (1, .ref x), (0, .ref sb)] rfl (nI_inc k 1 (by decide)) rfl (by decide) dL_law_2262 ?_
                  refine v_goto (tgt := 2000) C dL_law_2265 (by decide) ?_
                  refine v_lvp [0, 5, 6, 7, 8, 9, 10, 11, 12, 13, 14, 15, 16, 17, 18, 19, 20, 21] rfl ?_
                  refine v_widen (c2 := cs + 50 + 40 * (k + 1)) (s2 := sl + 9000 + 1000 * (k + 1)) (by omega) (by omega) ?_
                  exact ih1 (k + 1) h28 g28 (nUse s2 (nI k) (bU s2 (cl (nI k)) + (nI (1 + u4)).toInt64)) _ (by omega) (by show k + 1 ≤ bN s2; omega) ⟨xi28, (wf_use hw2 (c_us0 hB22 (show k < bN s2 by omega) (show q < 20 by omega) (show 1 ≤ 1 + u4 by omega) (by omega) (by rw [hu3n, lq_add (by omega)]; exact Int64.not_lt.mpr c21))), lw28, (rs_use (w2 := 700 * (t0 + 1)) (v := (nI (us + (1 + u4)))) li2.2.2.2 (by omega) (by rw [cl_nI (show k < 2 ^ 31 by omega), hu3n]; exact lq_add (by omega)) (by rw [nI_toInt (by omega)]; omega) (by rw [nI_toInt (by omega)]; omega) (Nat.le_refl _))⟩ (fun j h1 hj => by
                        show (up2 U2 (4 * k + 3) _ (4 * j + 3)).toInt ≤ _
                        rw [up2_n (by omega)]; exact hlow2 j (by omega) hj) (by omega)
                · obtain ⟨-, w28⟩ := w28
                  rcases w28 with ⟨ek, -⟩ | ⟨ek, -⟩ | ⟨ek, -⟩
                  · exact absurd ((c_us0 hB22 (by omega) (by omega) (by omega) (by omega) (by rw [hu3n, lq_add (by omega)]; exact Int64.not_lt.mpr c21)).symm.trans ek) (by decide)
                  · exact absurd ((c_us0 hB22 (by omega) (by omega) (by omega) (by omega) (by rw [hu3n, lq_add (by omega)]; exact Int64.not_lt.mpr c21)).symm.trans ek) (by decide)
                  · exact absurd ((c_us0 hB22 (by omega) (by omega) (by omega) (by omega) (by rw [hu3n, lq_add (by omega)]; exact Int64.not_lt.mpr c21)).symm.trans ek) (by decide)
              · have c21 := (lgc_le_f (lN64 (us + (1 + u4))) (bSize s2 k q)).mp c21
                refine v_aload_n C 20 rfl dL_law_2157 rfl ?_
                refine v_iload C 0 rfl dL_law_2158 ?_
                refine v_if_eq (tgt := 2168) C dL_law_2160 (by decide) (fun c33 => ?_) (fun c33 => absurd c33 (by decide))
                refine v_bipush (v := 8) C dL_law_2168 (by decide) ?_
                refine v_iload C 4 rfl dL_law_2170 ?_
                refine v_iload C 0 rfl dL_law_2172 ?_
                refine v_if_eq (tgt := 2182) C dL_law_2174 (by decide) (fun c34 => ?_) (fun c34 => absurd c34 (by decide))
                refine v_iload C 5 rfl dL_law_2182 ?_
                refine v_iload C 3 rfl dL_law_2184 ?_
                refine v_callL (rest := []) C hNc (c_L_refused_use_3 l hl G x g15 s2 (nI k) (nI q) (nI (1 + u4)) h15 xi15 hw2 (c_us3 hB22 (by omega) (by omega) (by omega) (by omega) (by rw [hu3n, lq_add (by omega)]; exact Int64.not_le.mp c21))) CL_L_151 rfl rfl (Nat.le_of_ble_eq_true rfl) ⟨Nat.le_of_ble_eq_true rfl, Nat.le_of_ble_eq_true rfl⟩ ⟨by show cs + 50 + 40 * k + 0 + 0 + 0 + 10 + 10 ≤ 670155; omega, by show sl + 9000 + 1000 * k + 0 + 0 + 0 + 200 + 200 ≤ 7091004; omega⟩ dL_law_2186 (fun r35 h35 w35 => ?_)
                obtain ⟨e35, rfl⟩ := w35; subst e35
                refine v_iconst (v := 3) C dL_law_2189 (by decide) ?_
                refine v_icmp_eq (tgt := 2262) C dL_law_2190 (by decide) (fun c36 => ?_) (fun c36 => absurd c36 (by decide))
                refine v_iinc C 4 [(22, .int (nI (k + 1))), (28, .int 0), (26, .long (bSize s2 k q)), (24, .long (oV s2 (bT s2 k) q)), (23, .int (nI (1 + u4))), (20, .int (nI q)), (16, .int y0), (14, .int (nI t0)), (13, .int (nI (bN s2))), (12, .int (nI (rN s2))), (11, .int (nI (oN s2))), (10, .int (nI (oS s2).length)), (9, .int (nI N)), (8, .ref (ad 6)), (7, .ref (ad 5)), (6, .ref (ad 4)), (5, .ref (ad 3)), (4, .ref (ad 2)), (3, .ref (ad 1)), (2, .ref (ad 0)), (1, .ref x), (0, .ref sb)] rfl (nI_inc k 1 (by decide)) rfl (by decide) dL_law_2262 ?_
                refine v_goto (tgt := 2000) C dL_law_2265 (by decide) ?_
                refine v_lvp [0, 5, 6, 7, 8, 9, 10, 11, 12, 13, 14, 15, 16, 17, 18, 19, 20, 21] rfl ?_
                refine v_widen (c2 := cs + 50 + 40 * (k + 1)) (s2 := sl + 9000 + 1000 * (k + 1)) (by omega) (by omega) ?_
                exact ih1 (k + 1) h15 g15 s2 U2 (by omega) (by omega) ⟨xi15, hw2, lw15, li2.2.2.2⟩ (fun j h1 hj => hlow2 j (by omega) hj) (by omega)
            · exact absurd ((c_siz hB22 (by omega) (by omega)).symm.trans w15.2.1) (by decide)
          · have c14 := (nk_ne_f (a := u13) 0 (by decide) (by omega) (by decide)).mp c14
            refine v_iconst (v := 1) C dL_law_2093 (by decide) ?_
            refine v_goto (tgt := 2098) C dL_law_2094 (by decide) ?_
            refine v_istore C [(28, .int 1), (26, .long (bSize s2 k q)), (24, .long (oV s2 (bT s2 k) q)), (23, .int (nI (1 + u4))), (22, .int (nI k)), (20, .int (nI q)), (16, .int y0), (14, .int (nI t0)), (13, .int (nI (bN s2))), (12, .int (nI (rN s2))), (11, .int (nI (oN s2))), (10, .int (nI (oS s2).length)), (9, .int (nI N)), (8, .ref (ad 6)), (7, .ref (ad 5)), (6, .ref (ad 4)), (5, .ref (ad 3)), (4, .ref (ad 2)), (3, .ref (ad 1)), (2, .ref (ad 0)), (1, .ref x), (0, .ref sb)] rfl (by decide) dL_law_2098 ?_
            refine v_aload_n C 20 rfl dL_law_2100 rfl ?_
            refine v_iload C 4 rfl dL_law_2101 ?_
            refine v_iload C 5 rfl dL_law_2103 ?_
            refine v_callVX (rest := []) C (c_X4_size l hl G x g2 s2 (nI k) (nI q) h2 hi2 hw2) K_L_210 hi2.1.1.1 rfl rfl (Nat.le_of_ble_eq_true rfl) ⟨Nat.le_of_ble_eq_true rfl, Nat.le_of_ble_eq_true rfl⟩ ⟨by show cs + 50 + 40 * k + 0 + 0 + 0 + 10 ≤ 670155; omega, by show sl + 9000 + 1000 * k + 0 + 0 + 0 + 200 ≤ 7091004; omega⟩ dL_law_2105 (fun r38 h38 w38 => ?_) (fun E38 h38 w38 => ?_)
            · obtain ⟨-, er38, g38, xi38, fz38⟩ := w38
              have lw38 := lx2.fr fz38
              have fr38 := fz38
              replace er38 := er38.trans (by rw [cl_nI (show k < 2 ^ 31 by omega), cl_nI (show q < 2 ^ 31 by omega)])
              subst er38
              refine v_lload C 1 rfl dL_law_2108 ?_
              refine v_lcmp C dL_law_2110 ?_
              refine v_if_eq (tgt := 2116) C dL_law_2111 (by decide) (fun c39 => ?_) (fun c39 => absurd ((lgc_eq _ _).mpr rfl) c39)
              have c39 := (lgc_eq (bSize s2 k q) (bSize s2 k q)).mp c39
              refine v_iload C 0 rfl dL_law_2116 ?_
              refine v_if_eq (tgt := 2138) C dL_law_2118 (by decide) (fun c40 => absurd c40 (by decide)) (fun c40 => ?_)
              refine v_aload C 14 rfl dL_law_2121 ?_
              refine v_iconst (v := 4) C dL_law_2123 (by decide) ?_
              refine v_iload C 4 rfl dL_law_2124 ?_
              refine v_imul C dL_law_2126 (v_eqi (nI_kml k 4 (by decide)) ?_)
              refine v_iconst (v := 3) C dL_law_2127 (by decide) ?_
              refine v_iadd C dL_law_2128 (v_eqi (nI_adk (4 * k) 3 (by decide)) ?_)
              refine v_iald C (lw38.1.2.2.2.2.2.1) (vpin (show 4 * k + 3 < 8 by omega) (by decide)) dL_law_2129 (v_eqi (y := (nI us)) ((congrArg U2 (nI_clamp (show 4 * k + 3 < 2 ^ 31 by omega))).trans (eus)) ?_)
              refine v_iload C 3 rfl dL_law_2130 ?_
              refine v_icmp_ge (tgt := 2195) C dL_law_2132 (by decide) (fun c43 => ?_) (fun c43 => ?_)
              · have c43 := (nn_ge (a := us) (b := (1 + u4)) (by omega) (by omega)).mp c43
                refine v_aload C 14 rfl dL_law_2195 ?_
                refine v_iconst (v := 4) C dL_law_2197 (by decide) ?_
                refine v_iload C 4 rfl dL_law_2198 ?_
                refine v_imul C dL_law_2200 (v_eqi (nI_kml k 4 (by decide)) ?_)
                refine v_iconst (v := 3) C dL_law_2201 (by decide) ?_
                refine v_iadd C dL_law_2202 (v_eqi (nI_adk (4 * k) 3 (by decide)) ?_)
                refine v_dup2_11 C dL_law_2203 rfl rfl ?_
                refine v_iald C (lw38.1.2.2.2.2.2.1) (vpin (show 4 * k + 3 < 8 by omega) (by decide)) dL_law_2204 (v_eqi (y := (nI us)) ((congrArg U2 (nI_clamp (show 4 * k + 3 < 2 ^ 31 by omega))).trans (eus)) ?_)
                refine v_iload C 0 rfl dL_law_2205 ?_
                refine v_if_eq (tgt := 2216) C dL_law_2207 (by decide) (fun c46 => absurd c46 (by decide)) (fun c46 => ?_)
                refine v_iload C 3 rfl dL_law_2210 ?_
                refine v_ineg C dL_law_2212 (v_eqi (y := (-(nI (1 + u4)))) (rfl) ?_)
                refine v_goto (tgt := 2218) C dL_law_2213 (by decide) ?_
                refine v_iadd C dL_law_2218 (v_eqi (y := (nI (us - (1 + u4)))) ((Int32.add_comm _ _).trans (ng_add (a := us) (b := (1 + u4)) (by omega))) ?_)
                refine v_iast C (lw38.1.2.2.2.2.2.1) (vpin (show 4 * k + 3 < 8 by omega) (by decide)) dL_law_2219 (v_nw (fun h49 eh49 => ?_))
                have lw49 := lw38.p5 (i := 4 * k + 3) (y := (nI (us - (1 + u4)))) (by omega) eh49
                have xi49 := lw38.xi xi38 (i := 5) (by decide) eh49
                refine v_iload C 0 rfl dL_law_2220 ?_
                refine v_if_eq (tgt := 2236) C dL_law_2222 (by decide) (fun c50 => absurd c50 (by decide)) (fun c50 => ?_)
                refine v_aload_n C 20 rfl dL_law_2225 rfl ?_
                refine v_iload C 4 rfl dL_law_2226 ?_
                refine v_iload C 3 rfl dL_law_2228 ?_
                refine v_callVX (rest := []) C (c_X4_refill l hl G x g38 s2 (nI k) (nI (1 + u4)) h49 xi49 hw2) K_L_122 xi49.1.1.1 rfl rfl (Nat.le_of_ble_eq_true rfl) ⟨Nat.le_of_ble_eq_true rfl, Nat.le_of_ble_eq_true rfl⟩ ⟨by show cs + 50 + 40 * k + 0 + 0 + 0 + 10 + 10 ≤ 670155; omega, by show sl + 9000 + 1000 * k + 0 + 0 + 0 + 200 + 200 ≤ 7091004; omega⟩ dL_law_2230 (fun r51 h51 w51 => ?_) (fun E51 h51 w51 => ?_)
                · obtain ⟨-, er51, g51, xi51, fz51⟩ := w51
                  have lw51 := lw49.fr fz51
                  have fr51 := fz51
                  replace er51 := er51.trans (show bU s2 (cl (nI k)) - (nI (1 + u4)).toInt64 = lN64 (us - (1 + u4)) by rw [cl_nI (show k < 2 ^ 31 by omega), hu3n]; exact lq_sub (by omega) (by omega))
                  subst er51
                  refine v_goto (tgt := 2246) C dL_law_2233 (by decide) ?_
                  refine v_aload C 14 rfl dL_law_2246 ?_
                  refine v_iconst (v := 4) C dL_law_2248 (by decide) ?_
                  refine v_iload C 4 rfl dL_law_2249 ?_
                  refine v_imul C dL_law_2251 (v_eqi (nI_kml k 4 (by decide)) ?_)
                  refine v_iconst (v := 3) C dL_law_2252 (by decide) ?_
                  refine v_iadd C dL_law_2253 (v_eqi (nI_adk (4 * k) 3 (by decide)) ?_)
                  refine v_iald C (lw51.1.2.2.2.2.2.1) (vpin (show 4 * k + 3 < 8 by omega) (by decide)) dL_law_2254 (v_eqi (y := (nI (us - (1 + u4)))) ((congrArg (up2 U2 (4 * k + 3) (nI (us - (1 + u4)))) (nI_clamp (show 4 * k + 3 < 2 ^ 31 by omega))).trans (up2_s)) ?_)
                  refine v_i2l (v := lN64 (us - (1 + u4))) C dL_law_2255 rfl ?_
                  refine v_lcmp C dL_law_2256 ?_
                  refine v_if_eq (tgt := 2262) C dL_law_2257 (by decide) (fun c54 => ?_) (fun c54 => absurd ((lgc_eq _ _).mpr rfl) c54)
                  have c54 := (lgc_eq (lN64 (us - (1 + u4))) (lN64 (us - (1 + u4)))).mp c54
                  refine v_iinc C 4 [(22, .int (nI (k + 1))), (28, .int 1), (26, .long (bSize s2 k q)), (24, .long (oV s2 (bT s2 k) q)), (23, .int (nI (1 + u4))), (20, .int (nI q)), (16, .int y0), (14, .int (nI t0)), (13, .int (nI (bN s2))), (12, .int (nI (rN s2))), (11, .int (nI (oN s2))), (10, .int (nI (oS s2).length)), (9, .int (nI N)), (8, .ref (ad 6)), (7, .ref (ad 5)), (6, .ref (ad 4)), (5, .ref (ad 3)), (4, .ref (ad 2)), (3, .ref (ad 1)), (2, .ref (ad 0)), (1, .ref x), (0, .ref sb)] rfl (nI_inc k 1 (by decide)) rfl (by decide) dL_law_2262 ?_
                  refine v_goto (tgt := 2000) C dL_law_2265 (by decide) ?_
                  refine v_lvp [0, 5, 6, 7, 8, 9, 10, 11, 12, 13, 14, 15, 16, 17, 18, 19, 20, 21] rfl ?_
                  refine v_widen (c2 := cs + 50 + 40 * (k + 1)) (s2 := sl + 9000 + 1000 * (k + 1)) (by omega) (by omega) ?_
                  exact ih1 (k + 1) h51 g51 (nUse s2 (nI k) (bU s2 (cl (nI k)) - (nI (1 + u4)).toInt64)) _ (by omega) (by show k + 1 ≤ bN s2; omega) ⟨xi51, (wf_refill hw2 (c_rf0 hB22 (show k < bN s2 by omega) (show 1 ≤ 1 + u4 by omega) (by omega) (by rw [hu3n]; exact fun z => absurd ((lq_lt (by omega) (by omega)).mp z) (by omega)))), lw51, (rs_use (w2 := 700 * (t0 + 1)) (v := (nI (us - (1 + u4)))) li2.2.2.2 (by omega) (by rw [cl_nI (show k < 2 ^ 31 by omega), hu3n]; exact lq_sub (by omega) (by omega)) (by rw [nI_toInt (by omega)]; omega) (by rw [nI_toInt (by omega)]; omega) (Nat.le_refl _))⟩ (fun j h1 hj => by
                        show (up2 U2 (4 * k + 3) _ (4 * j + 3)).toInt ≤ _
                        rw [up2_n (by omega)]; exact hlow2 j (by omega) hj) (by omega)
                · obtain ⟨-, w51⟩ := w51
                  rcases w51 with ⟨ek, -⟩ | ⟨ek, -⟩ | ⟨ek, -⟩
                  · exact absurd ((c_rf0 hB22 (by omega) (by omega) (by omega) (by rw [hu3n]; exact fun z => absurd ((lq_lt (by omega) (by omega)).mp z) (by omega))).symm.trans ek) (by decide)
                  · exact absurd ((c_rf0 hB22 (by omega) (by omega) (by omega) (by rw [hu3n]; exact fun z => absurd ((lq_lt (by omega) (by omega)).mp z) (by omega))).symm.trans ek) (by decide)
                  · exact absurd ((c_rf0 hB22 (by omega) (by omega) (by omega) (by rw [hu3n]; exact fun z => absurd ((lq_lt (by omega) (by omega)).mp z) (by omega))).symm.trans ek) (by decide)
              · have c43 := (nn_ge_f (a := us) (b := (1 + u4)) (by omega) (by omega)).mp c43
                refine v_goto (tgt := 2157) C dL_law_2135 (by decide) ?_
                refine v_aload_n C 20 rfl dL_law_2157 rfl ?_
                refine v_iload C 0 rfl dL_law_2158 ?_
                refine v_if_eq (tgt := 2168) C dL_law_2160 (by decide) (fun c56 => absurd c56 (by decide)) (fun c56 => ?_)
                refine v_bipush (v := 9) C dL_law_2163 (by decide) ?_
                refine v_goto (tgt := 2170) C dL_law_2165 (by decide) ?_
                refine v_iload C 4 rfl dL_law_2170 ?_
                refine v_iload C 0 rfl dL_law_2172 ?_
                refine v_if_eq (tgt := 2182) C dL_law_2174 (by decide) (fun c57 => absurd c57 (by decide)) (fun c57 => ?_)
                refine v_iload C 3 rfl dL_law_2177 ?_
                refine v_goto (tgt := 2184) C dL_law_2179 (by decide) ?_
                refine v_iload C 3 rfl dL_law_2184 ?_
                refine v_callL (rest := []) C hNc (c_L_refused_refill_3 l hl G x g38 s2 (nI k) (nI (1 + u4)) (nI (1 + u4)) h38 xi38 hw2 (c_rf3 hB22 (by omega) (by omega) (by omega) (by rw [hu3n]; exact (lq_lt (by omega) (by omega)).mpr (by omega)))) CL_L_151 rfl rfl (Nat.le_of_ble_eq_true rfl) ⟨Nat.le_of_ble_eq_true rfl, Nat.le_of_ble_eq_true rfl⟩ ⟨by show cs + 50 + 40 * k + 0 + 0 + 0 + 10 + 10 ≤ 670155; omega, by show sl + 9000 + 1000 * k + 0 + 0 + 0 + 200 + 200 ≤ 7091004; omega⟩ dL_law_2186 (fun r58 h58 w58 => ?_)
                obtain ⟨e58, rfl⟩ := w58; subst e58
                refine v_iconst (v := 3) C dL_law_2189 (by decide) ?_
                refine v_icmp_eq (tgt := 2262) C dL_law_2190 (by decide) (fun c59 => ?_) (fun c59 => absurd c59 (by decide))
                refine v_iinc C 4 [(22, .int (nI (k + 1))), (28, .int 1), (26, .long (bSize s2 k q)), (24, .long (oV s2 (bT s2 k) q)), (23, .int (nI (1 + u4))), (20, .int (nI q)), (16, .int y0), (14, .int (nI t0)), (13, .int (nI (bN s2))), (12, .int (nI (rN s2))), (11, .int (nI (oN s2))), (10, .int (nI (oS s2).length)), (9, .int (nI N)), (8, .ref (ad 6)), (7, .ref (ad 5)), (6, .ref (ad 4)), (5, .ref (ad 3)), (4, .ref (ad 2)), (3, .ref (ad 1)), (2, .ref (ad 0)), (1, .ref x), (0, .ref sb)] rfl (nI_inc k 1 (by decide)) rfl (by decide) dL_law_2262 ?_
                refine v_goto (tgt := 2000) C dL_law_2265 (by decide) ?_
                refine v_lvp [0, 5, 6, 7, 8, 9, 10, 11, 12, 13, 14, 15, 16, 17, 18, 19, 20, 21] rfl ?_
                refine v_widen (c2 := cs + 50 + 40 * (k + 1)) (s2 := sl + 9000 + 1000 * (k + 1)) (by omega) (by omega) ?_
                exact ih1 (k + 1) h38 g38 s2 U2 (by omega) (by omega) ⟨xi38, hw2, lw38, li2.2.2.2⟩ (fun j h1 hj => hlow2 j (by omega) hj) (by omega)
            · exact absurd ((c_siz hB22 (by omega) (by omega)).symm.trans w38.2.1) (by decide)
        · have c10 := (lgc_le_f (oV s2 (bT s2 k) q) 0).mp c10
          refine v_lload C 0 rfl dL_law_2057 ?_
          refine v_aload C 12 rfl dL_law_2059 ?_
          refine v_iconst (v := 4) C dL_law_2061 (by decide) ?_
          refine v_iload C 2 rfl dL_law_2062 ?_
          refine v_imul C dL_law_2064 (v_eqi (nI_kml k 4 (by decide)) ?_)
          refine v_iconst (v := 2) C dL_law_2065 (by decide) ?_
          refine v_iadd C dL_law_2066 (v_eqi (nI_adk (4 * k) 2 (by decide)) ?_)
          refine v_iald C (lx2.1.2.2.2.2.2.1) (vpin (show 4 * k + 2 < 8 by omega) (by decide)) dL_law_2067 (v_eqi (y := (bP s2 k)) ((congrArg U2 (nI_clamp (show 4 * k + 2 < 2 ^ 31 by omega))).trans (ub2)) ?_)
          refine v_i2l (v := ((bP s2 k) : Int32).toInt64) C dL_law_2068 rfl ?_
          refine v_lmul C dL_law_2069 (v_eql (y := ((oV s2 (bT s2 k) q) * (Int32.toInt64 (bP s2 k)))) (rfl) ?_)
          refine v_ldc2 C KO_L_30 dL_law_2070 ?_
          refine v_ldiv C dL_law_2073 (by decide) (v_eql (y := (((oV s2 (bT s2 k) q) * (Int32.toInt64 (bP s2 k))) / 100)) (rfl) ?_)
          refine v_goto (tgt := 2078) C dL_law_2074 (by decide) ?_
          refine v_ladd C dL_law_2078 (v_eql (y := (bSize s2 k q)) (bs_yes (Int64.not_le.mp c10) hbd hbP) ?_)
          refine v_lstore C [(26, .long (bSize s2 k q)), (24, .long (oV s2 (bT s2 k) q)), (23, .int (nI (1 + u4))), (22, .int (nI k)), (20, .int (nI q)), (16, .int y0), (14, .int (nI t0)), (13, .int (nI (bN s2))), (12, .int (nI (rN s2))), (11, .int (nI (oN s2))), (10, .int (nI (oS s2).length)), (9, .int (nI N)), (8, .ref (ad 6)), (7, .ref (ad 5)), (6, .ref (ad 4)), (5, .ref (ad 3)), (4, .ref (ad 2)), (3, .ref (ad 1)), (2, .ref (ad 0)), (1, .ref x), (0, .ref sb)] rfl (by decide) dL_law_2079 ?_
          refine v_iload C 5 rfl dL_law_2081 ?_
          refine v_bipush (v := 20) C dL_law_2083 (by decide) ?_
          refine v_ishr C dL_law_2085 (v_topi (fun i66 e66 => ?_))
          refine v_iconst (v := 3) C dL_law_2086 (by decide) ?_
          refine v_callS (rest := []) C (c_L_low l hl G i66 3 h2 (by decide) (by omega)) S_L_178 rfl rfl (Nat.le_of_ble_eq_true rfl) ⟨Nat.le_of_ble_eq_true rfl, Nat.le_of_ble_eq_true rfl⟩ ⟨by show cs + 50 + 40 * k + 0 + 0 + 0 ≤ 670155; omega, by show sl + 9000 + 1000 * k + 0 + 0 + 0 ≤ 7091004; omega⟩ dL_law_2087 (fun i67 h67 q67 => ?_)
          obtain ⟨e67, rfl⟩ := q67
          obtain ⟨u67, hu67, eu67⟩ : ∃ u, u < 3 ∧ lw i66 3 = u := ⟨_, lw_lt (by decide), rfl⟩
          rw [eu67] at e67; subst e67
          refine v_if_ne (tgt := 2097) C dL_law_2090 (by decide) (fun c68 => ?_) (fun c68 => ?_)
          · have c68 := (nk_ne (a := u67) 0 (by decide) (by omega) (by decide)).mp c68
            refine v_iconst (v := 0) C dL_law_2097 (by decide) ?_
            refine v_istore C [(28, .int 0), (26, .long (bSize s2 k q)), (24, .long (oV s2 (bT s2 k) q)), (23, .int (nI (1 + u4))), (22, .int (nI k)), (20, .int (nI q)), (16, .int y0), (14, .int (nI t0)), (13, .int (nI (bN s2))), (12, .int (nI (rN s2))), (11, .int (nI (oN s2))), (10, .int (nI (oS s2).length)), (9, .int (nI N)), (8, .ref (ad 6)), (7, .ref (ad 5)), (6, .ref (ad 4)), (5, .ref (ad 3)), (4, .ref (ad 2)), (3, .ref (ad 1)), (2, .ref (ad 0)), (1, .ref x), (0, .ref sb)] rfl (by decide) dL_law_2098 ?_
            refine v_aload_n C 20 rfl dL_law_2100 rfl ?_
            refine v_iload C 4 rfl dL_law_2101 ?_
            refine v_iload C 5 rfl dL_law_2103 ?_
            refine v_callVX (rest := []) C (c_X4_size l hl G x g2 s2 (nI k) (nI q) h2 hi2 hw2) K_L_210 hi2.1.1.1 rfl rfl (Nat.le_of_ble_eq_true rfl) ⟨Nat.le_of_ble_eq_true rfl, Nat.le_of_ble_eq_true rfl⟩ ⟨by show cs + 50 + 40 * k + 0 + 0 + 0 + 10 ≤ 670155; omega, by show sl + 9000 + 1000 * k + 0 + 0 + 0 + 200 ≤ 7091004; omega⟩ dL_law_2105 (fun r69 h69 w69 => ?_) (fun E69 h69 w69 => ?_)
            · obtain ⟨-, er69, g69, xi69, fz69⟩ := w69
              have lw69 := lx2.fr fz69
              have fr69 := fz69
              replace er69 := er69.trans (by rw [cl_nI (show k < 2 ^ 31 by omega), cl_nI (show q < 2 ^ 31 by omega)])
              subst er69
              refine v_lload C 1 rfl dL_law_2108 ?_
              refine v_lcmp C dL_law_2110 ?_
              refine v_if_eq (tgt := 2116) C dL_law_2111 (by decide) (fun c70 => ?_) (fun c70 => absurd ((lgc_eq _ _).mpr rfl) c70)
              have c70 := (lgc_eq (bSize s2 k q) (bSize s2 k q)).mp c70
              refine v_iload C 0 rfl dL_law_2116 ?_
              refine v_if_eq (tgt := 2138) C dL_law_2118 (by decide) (fun c71 => ?_) (fun c71 => absurd c71 (by decide))
              refine v_aload C 14 rfl dL_law_2138 ?_
              refine v_iconst (v := 4) C dL_law_2140 (by decide) ?_
              refine v_iload C 4 rfl dL_law_2141 ?_
              refine v_imul C dL_law_2143 (v_eqi (nI_kml k 4 (by decide)) ?_)
              refine v_iconst (v := 3) C dL_law_2144 (by decide) ?_
              refine v_iadd C dL_law_2145 (v_eqi (nI_adk (4 * k) 3 (by decide)) ?_)
              refine v_iald C (lw69.1.2.2.2.2.2.1) (vpin (show 4 * k + 3 < 8 by omega) (by decide)) dL_law_2146 (v_eqi (y := (nI us)) ((congrArg U2 (nI_clamp (show 4 * k + 3 < 2 ^ 31 by omega))).trans (eus)) ?_)
              refine v_iload C 3 rfl dL_law_2147 ?_
              refine v_iadd C dL_law_2149 (v_eqi (nI_add us (1 + u4)) ?_)
              refine v_i2l (v := lN64 (us + (1 + u4))) C dL_law_2150 rfl ?_
              refine v_lload C 1 rfl dL_law_2151 ?_
              refine v_lcmp C dL_law_2153 ?_
              refine v_if_le (tgt := 2195) C dL_law_2154 (by decide) (fun c75 => ?_) (fun c75 => ?_)
              · have c75 := (lgc_le (lN64 (us + (1 + u4))) (bSize s2 k q)).mp c75
                refine v_aload C 14 rfl dL_law_2195 ?_
                refine v_iconst (v := 4) C dL_law_2197 (by decide) ?_
                refine v_iload C 4 rfl dL_law_2198 ?_
                refine v_imul C dL_law_2200 (v_eqi (nI_kml k 4 (by decide)) ?_)
                refine v_iconst (v := 3) C dL_law_2201 (by decide) ?_
                refine v_iadd C dL_law_2202 (v_eqi (nI_adk (4 * k) 3 (by decide)) ?_)
                refine v_dup2_11 C dL_law_2203 rfl rfl ?_
                refine v_iald C (lw69.1.2.2.2.2.2.1) (vpin (show 4 * k + 3 < 8 by omega) (by decide)) dL_law_2204 (v_eqi (y := (nI us)) ((congrArg U2 (nI_clamp (show 4 * k + 3 < 2 ^ 31 by omega))).trans (eus)) ?_)
                refine v_iload C 0 rfl dL_law_2205 ?_
                refine v_if_eq (tgt := 2216) C dL_law_2207 (by decide) (fun c78 => ?_) (fun c78 => absurd c78 (by decide))
                refine v_iload C 3 rfl dL_law_2216 ?_
                refine v_iadd C dL_law_2218 (v_eqi (nI_add us (1 + u4)) ?_)
                refine v_iast C (lw69.1.2.2.2.2.2.1) (vpin (show 4 * k + 3 < 8 by omega) (by decide)) dL_law_2219 (v_nw (fun h80 eh80 => ?_))
                have lw80 := lw69.p5 (i := 4 * k + 3) (y := (nI (us + (1 + u4)))) (by omega) eh80
                have xi80 := lw69.xi xi69 (i := 5) (by decide) eh80
                refine v_iload C 0 rfl dL_law_2220 ?_
                refine v_if_eq (tgt := 2236) C dL_law_2222 (by decide) (fun c81 => ?_) (fun c81 => absurd c81 (by decide))
                refine v_aload_n C 20 rfl dL_law_2236 rfl ?_
                refine v_iload C 4 rfl dL_law_2237 ?_
                refine v_iload C 5 rfl dL_law_2239 ?_
                refine v_iload C 3 rfl dL_law_2241 ?_
                refine v_callVX (rest := []) C (c_X4_use l hl G x g69 s2 (nI k) (nI q) (nI (1 + u4)) h80 xi80 hw2) K_L_118 xi80.1.1.1 rfl rfl (Nat.le_of_ble_eq_true rfl) ⟨Nat.le_of_ble_eq_true rfl, Nat.le_of_ble_eq_true rfl⟩ ⟨by show cs + 50 + 40 * k + 0 + 0 + 0 + 10 + 10 ≤ 670155; omega, by show sl + 9000 + 1000 * k + 0 + 0 + 0 + 200 + 200 ≤ 7091004; omega⟩ dL_law_2243 (fun r82 h82 w82 => ?_) (fun E82 h82 w82 => ?_)
                · obtain ⟨-, er82, g82, xi82, fz82⟩ := w82
                  have lw82 := lw80.fr fz82
                  have fr82 := fz82
                  replace er82 := er82.trans (show bU s2 (cl (nI k)) + (nI (1 + u4)).toInt64 = lN64 (us + (1 + u4)) by rw [cl_nI (show k < 2 ^ 31 by omega), hu3n]; exact lq_add (by omega))
                  subst er82
                  refine v_aload C 14 rfl dL_law_2246 ?_
                  refine v_iconst (v := 4) C dL_law_2248 (by decide) ?_
                  refine v_iload C 4 rfl dL_law_2249 ?_
                  refine v_imul C dL_law_2251 (v_eqi (nI_kml k 4 (by decide)) ?_)
                  refine v_iconst (v := 3) C dL_law_2252 (by decide) ?_
                  refine v_iadd C dL_law_2253 (v_eqi (nI_adk (4 * k) 3 (by decide)) ?_)
                  refine v_iald C (lw82.1.2.2.2.2.2.1) (vpin (show 4 * k + 3 < 8 by omega) (by decide)) dL_law_2254 (v_eqi (y := (nI (us + (1 + u4)))) ((congrArg (up2 U2 (4 * k + 3) (nI (us + (1 + u4)))) (nI_clamp (show 4 * k + 3 < 2 ^ 31 by omega))).trans (up2_s)) ?_)
                  refine v_i2l (v := lN64 (us + (1 + u4))) C dL_law_2255 rfl ?_
                  refine v_lcmp C dL_law_2256 ?_
                  refine v_if_eq (tgt := 2262) C dL_law_2257 (by decide) (fun c85 => ?_) (fun c85 => absurd ((lgc_eq _ _).mpr rfl) c85)
                  have c85 := (lgc_eq (lN64 (us + (1 + u4))) (lN64 (us + (1 + u4)))).mp c85
                  refine v_iinc C 4 [(22, .int (nI (k + 1))), (28, .int 0), (26, .long (bSize s2 k q)), (24, .long (oV s2 (bT s2 k) q)), (23, .int (nI (1 + u4))), (20, .int (nI q)), (16, .int y0), (14, .int (nI t0)), (13, .int (nI (bN s2))), (12, .int (nI (rN s2))), (11, .int (nI (oN s2))), (10, .int (nI (oS s2).length)), (9, .int (nI N)), (8, .ref (ad 6)), (7, .ref (ad 5)), (6, .ref (ad 4)), (5, .ref (ad 3)), (4, .ref (ad 2)), (3, .ref (ad 1)), (2, .ref (ad 0)), (1, .ref x), (0, .ref sb)] rfl (nI_inc k 1 (by decide)) rfl (by decide) dL_law_2262 ?_
                  refine v_goto (tgt := 2000) C dL_law_2265 (by decide) ?_
                  refine v_lvp [0, 5, 6, 7, 8, 9, 10, 11, 12, 13, 14, 15, 16, 17, 18, 19, 20, 21] rfl ?_
                  refine v_widen (c2 := cs + 50 + 40 * (k + 1)) (s2 := sl + 9000 + 1000 * (k + 1)) (by omega) (by omega) ?_
                  exact ih1 (k + 1) h82 g82 (nUse s2 (nI k) (bU s2 (cl (nI k)) + (nI (1 + u4)).toInt64)) _ (by omega) (by show k + 1 ≤ bN s2; omega) ⟨xi82, (wf_use hw2 (c_us0 hB22 (show k < bN s2 by omega) (show q < 20 by omega) (show 1 ≤ 1 + u4 by omega) (by omega) (by rw [hu3n, lq_add (by omega)]; exact Int64.not_lt.mpr c75))), lw82, (rs_use (w2 := 700 * (t0 + 1)) (v := (nI (us + (1 + u4)))) li2.2.2.2 (by omega) (by rw [cl_nI (show k < 2 ^ 31 by omega), hu3n]; exact lq_add (by omega)) (by rw [nI_toInt (by omega)]; omega) (by rw [nI_toInt (by omega)]; omega) (Nat.le_refl _))⟩ (fun j h1 hj => by
                        show (up2 U2 (4 * k + 3) _ (4 * j + 3)).toInt ≤ _
                        rw [up2_n (by omega)]; exact hlow2 j (by omega) hj) (by omega)
                · obtain ⟨-, w82⟩ := w82
                  rcases w82 with ⟨ek, -⟩ | ⟨ek, -⟩ | ⟨ek, -⟩
                  · exact absurd ((c_us0 hB22 (by omega) (by omega) (by omega) (by omega) (by rw [hu3n, lq_add (by omega)]; exact Int64.not_lt.mpr c75)).symm.trans ek) (by decide)
                  · exact absurd ((c_us0 hB22 (by omega) (by omega) (by omega) (by omega) (by rw [hu3n, lq_add (by omega)]; exact Int64.not_lt.mpr c75)).symm.trans ek) (by decide)
                  · exact absurd ((c_us0 hB22 (by omega) (by omega) (by omega) (by omega) (by rw [hu3n, lq_add (by omega)]; exact Int64.not_lt.mpr c75)).symm.trans ek) (by decide)
              · have c75 := (lgc_le_f (lN64 (us + (1 + u4))) (bSize s2 k q)).mp c75
                refine v_aload_n C 20 rfl dL_law_2157 rfl ?_
                refine v_iload C 0 rfl dL_law_2158 ?_
                refine v_if_eq (tgt := 2168) C dL_law_2160 (by decide) (fun c87 => ?_) (fun c87 => absurd c87 (by decide))
                refine v_bipush (v := 8) C dL_law_2168 (by decide) ?_
                refine v_iload C 4 rfl dL_law_2170 ?_
                refine v_iload C 0 rfl dL_law_2172 ?_
                refine v_if_eq (tgt := 2182) C dL_law_2174 (by decide) (fun c88 => ?_) (fun c88 => absurd c88 (by decide))
                refine v_iload C 5 rfl dL_law_2182 ?_
                refine v_iload C 3 rfl dL_law_2184 ?_
                refine v_callL (rest := []) C hNc (c_L_refused_use_3 l hl G x g69 s2 (nI k) (nI q) (nI (1 + u4)) h69 xi69 hw2 (c_us3 hB22 (by omega) (by omega) (by omega) (by omega) (by rw [hu3n, lq_add (by omega)]; exact Int64.not_le.mp c75))) CL_L_151 rfl rfl (Nat.le_of_ble_eq_true rfl) ⟨Nat.le_of_ble_eq_true rfl, Nat.le_of_ble_eq_true rfl⟩ ⟨by show cs + 50 + 40 * k + 0 + 0 + 0 + 10 + 10 ≤ 670155; omega, by show sl + 9000 + 1000 * k + 0 + 0 + 0 + 200 + 200 ≤ 7091004; omega⟩ dL_law_2186 (fun r89 h89 w89 => ?_)
                obtain ⟨e89, rfl⟩ := w89; subst e89
                refine v_iconst (v := 3) C dL_law_2189 (by decide) ?_
                refine v_icmp_eq (tgt := 2262) C dL_law_2190 (by decide) (fun c90 => ?_) (fun c90 => absurd c90 (by decide))
                refine v_iinc C 4 [(22, .int (nI (k + 1))), (28, .int 0), (26, .long (bSize s2 k q)), (24, .long (oV s2 (bT s2 k) q)), (23, .int (nI (1 + u4))), (20, .int (nI q)), (16, .int y0), (14, .int (nI t0)), (13, .int (nI (bN s2))), (12, .int (nI (rN s2))), (11, .int (nI (oN s2))), (10, .int (nI (oS s2).length)), (9, .int (nI N)), (8, .ref (ad 6)), (7, .ref (ad 5)), (6, .ref (ad 4)), (5, .ref (ad 3)), (4, .ref (ad 2)), (3, .ref (ad 1)), (2, .ref (ad 0)), (1, .ref x), (0, .ref sb)] rfl (nI_inc k 1 (by decide)) rfl (by decide) dL_law_2262 ?_
                refine v_goto (tgt := 2000) C dL_law_2265 (by decide) ?_
                refine v_lvp [0, 5, 6, 7, 8, 9, 10, 11, 12, 13, 14, 15, 16, 17, 18, 19, 20, 21] rfl ?_
                refine v_widen (c2 := cs + 50 + 40 * (k + 1)) (s2 := sl + 9000 + 1000 * (k + 1)) (by omega) (by omega) ?_
                exact ih1 (k + 1) h69 g69 s2 U2 (by omega) (by omega) ⟨xi69, hw2, lw69, li2.2.2.2⟩ (fun j h1 hj => hlow2 j (by omega) hj) (by omega)
            · exact absurd ((c_siz hB22 (by omega) (by omega)).symm.trans w69.2.1) (by decide)
          · have c68 := (nk_ne_f (a := u67) 0 (by decide) (by omega) (by decide)).mp c68
            refine v_iconst (v := 1) C dL_law_2093 (by decide) ?_
            refine v_goto (tgt := 2098) C dL_law_2094 (by decide) ?_
            refine v_istore C [(28, .int 1), (26, .long (bSize s2 k q)), (24, .long (oV s2 (bT s2 k) q)), (23, .int (nI (1 + u4))), (22, .int (nI k)), (20, .int (nI q)), (16, .int y0), (14, .int (nI t0)), (13, .int (nI (bN s2))), (12, .int (nI (rN s2))), (11, .int (nI (oN s2))), (10, .int (nI (oS s2).length)), (9, .int (nI N)), (8, .ref (ad 6)), (7, .ref (ad 5)), (6, .ref (ad 4)), (5, .ref (ad 3)), (4, .ref (ad 2)), (3, .ref (ad 1)), (2, .ref (ad 0)), (1, .ref x), (0, .ref sb)] rfl (by decide) dL_law_2098 ?_
            refine v_aload_n C 20 rfl dL_law_2100 rfl ?_
            refine v_iload C 4 rfl dL_law_2101 ?_
            refine v_iload C 5 rfl dL_law_2103 ?_
            refine v_callVX (rest := []) C (c_X4_size l hl G x g2 s2 (nI k) (nI q) h2 hi2 hw2) K_L_210 hi2.1.1.1 rfl rfl (Nat.le_of_ble_eq_true rfl) ⟨Nat.le_of_ble_eq_true rfl, Nat.le_of_ble_eq_true rfl⟩ ⟨by show cs + 50 + 40 * k + 0 + 0 + 0 + 10 ≤ 670155; omega, by show sl + 9000 + 1000 * k + 0 + 0 + 0 + 200 ≤ 7091004; omega⟩ dL_law_2105 (fun r92 h92 w92 => ?_) (fun E92 h92 w92 => ?_)
            · obtain ⟨-, er92, g92, xi92, fz92⟩ := w92
              have lw92 := lx2.fr fz92
              have fr92 := fz92
              replace er92 := er92.trans (by rw [cl_nI (show k < 2 ^ 31 by omega), cl_nI (show q < 2 ^ 31 by omega)])
              subst er92
              refine v_lload C 1 rfl dL_law_2108 ?_
              refine v_lcmp C dL_law_2110 ?_
              refine v_if_eq (tgt := 2116) C dL_law_2111 (by decide) (fun c93 => ?_) (fun c93 => absurd ((lgc_eq _ _).mpr rfl) c93)
              have c93 := (lgc_eq (bSize s2 k q) (bSize s2 k q)).mp c93
              refine v_iload C 0 rfl dL_law_2116 ?_
              refine v_if_eq (tgt := 2138) C dL_law_2118 (by decide) (fun c94 => absurd c94 (by decide)) (fun c94 => ?_)
              refine v_aload C 14 rfl dL_law_2121 ?_
              refine v_iconst (v := 4) C dL_law_2123 (by decide) ?_
              refine v_iload C 4 rfl dL_law_2124 ?_
              refine v_imul C dL_law_2126 (v_eqi (nI_kml k 4 (by decide)) ?_)
              refine v_iconst (v := 3) C dL_law_2127 (by decide) ?_
              refine v_iadd C dL_law_2128 (v_eqi (nI_adk (4 * k) 3 (by decide)) ?_)
              refine v_iald C (lw92.1.2.2.2.2.2.1) (vpin (show 4 * k + 3 < 8 by omega) (by decide)) dL_law_2129 (v_eqi (y := (nI us)) ((congrArg U2 (nI_clamp (show 4 * k + 3 < 2 ^ 31 by omega))).trans (eus)) ?_)
              refine v_iload C 3 rfl dL_law_2130 ?_
              refine v_icmp_ge (tgt := 2195) C dL_law_2132 (by decide) (fun c97 => ?_) (fun c97 => ?_)
              · have c97 := (nn_ge (a := us) (b := (1 + u4)) (by omega) (by omega)).mp c97
                refine v_aload C 14 rfl dL_law_2195 ?_
                refine v_iconst (v := 4) C dL_law_2197 (by decide) ?_
                refine v_iload C 4 rfl dL_law_2198 ?_
                refine v_imul C dL_law_2200 (v_eqi (nI_kml k 4 (by decide)) ?_)
                refine v_iconst (v := 3) C dL_law_2201 (by decide) ?_
                refine v_iadd C dL_law_2202 (v_eqi (nI_adk (4 * k) 3 (by decide)) ?_)
                refine v_dup2_11 C dL_law_2203 rfl rfl ?_
                refine v_iald C (lw92.1.2.2.2.2.2.1) (vpin (show 4 * k + 3 < 8 by omega) (by decide)) dL_law_2204 (v_eqi (y := (nI us)) ((congrArg U2 (nI_clamp (show 4 * k + 3 < 2 ^ 31 by omega))).trans (eus)) ?_)
                refine v_iload C 0 rfl dL_law_2205 ?_
                refine v_if_eq (tgt := 2216) C dL_law_2207 (by decide) (fun c100 => absurd c100 (by decide)) (fun c100 => ?_)
                refine v_iload C 3 rfl dL_law_2210 ?_
                refine v_ineg C dL_law_2212 (v_eqi (y := (-(nI (1 + u4)))) (rfl) ?_)
                refine v_goto (tgt := 2218) C dL_law_2213 (by decide) ?_
                refine v_iadd C dL_law_2218 (v_eqi (y := (nI (us - (1 + u4)))) ((Int32.add_comm _ _).trans (ng_add (a := us) (b := (1 + u4)) (by omega))) ?_)
                refine v_iast C (lw92.1.2.2.2.2.2.1) (vpin (show 4 * k + 3 < 8 by omega) (by decide)) dL_law_2219 (v_nw (fun h103 eh103 => ?_))
                have lw103 := lw92.p5 (i := 4 * k + 3) (y := (nI (us - (1 + u4)))) (by omega) eh103
                have xi103 := lw92.xi xi92 (i := 5) (by decide) eh103
                refine v_iload C 0 rfl dL_law_2220 ?_
                refine v_if_eq (tgt := 2236) C dL_law_2222 (by decide) (fun c104 => absurd c104 (by decide)) (fun c104 => ?_)
                refine v_aload_n C 20 rfl dL_law_2225 rfl ?_
                refine v_iload C 4 rfl dL_law_2226 ?_
                refine v_iload C 3 rfl dL_law_2228 ?_
                refine v_callVX (rest := []) C (c_X4_refill l hl G x g92 s2 (nI k) (nI (1 + u4)) h103 xi103 hw2) K_L_122 xi103.1.1.1 rfl rfl (Nat.le_of_ble_eq_true rfl) ⟨Nat.le_of_ble_eq_true rfl, Nat.le_of_ble_eq_true rfl⟩ ⟨by show cs + 50 + 40 * k + 0 + 0 + 0 + 10 + 10 ≤ 670155; omega, by show sl + 9000 + 1000 * k + 0 + 0 + 0 + 200 + 200 ≤ 7091004; omega⟩ dL_law_2230 (fun r105 h105 w105 => ?_) (fun E105 h105 w105 => ?_)
                · obtain ⟨-, er105, g105, xi105, fz105⟩ := w105
                  have lw105 := lw103.fr fz105
                  have fr105 := fz105
                  replace er105 := er105.trans (show bU s2 (cl (nI k)) - (nI (1 + u4)).toInt64 = lN64 (us - (1 + u4)) by rw [cl_nI (show k < 2 ^ 31 by omega), hu3n]; exact lq_sub (by omega) (by omega))
                  subst er105
                  refine v_goto (tgt := 2246) C dL_law_2233 (by decide) ?_
                  refine v_aload C 14 rfl dL_law_2246 ?_
                  refine v_iconst (v := 4) C dL_law_2248 (by decide) ?_
                  refine v_iload C 4 rfl dL_law_2249 ?_
                  refine v_imul C dL_law_2251 (v_eqi (nI_kml k 4 (by decide)) ?_)
                  refine v_iconst (v := 3) C dL_law_2252 (by decide) ?_
                  refine v_iadd C dL_law_2253 (v_eqi (nI_adk (4 * k) 3 (by decide)) ?_)
                  refine v_iald C (lw105.1.2.2.2.2.2.1) (vpin (show 4 * k + 3 < 8 by omega) (by decide)) dL_law_2254 (v_eqi (y := (nI (us - (1 + u4)))) ((congrArg (up2 U2 (4 * k + 3) (nI (us - (1 + u4)))) (nI_clamp (show 4 * k + 3 < 2 ^ 31 by omega))).trans (up2_s)) ?_)
                  refine v_i2l (v := lN64 (us - (1 + u4))) C dL_law_2255 rfl ?_
                  refine v_lcmp C dL_law_2256 ?_
                  refine v_if_eq (tgt := 2262) C dL_law_2257 (by decide) (fun c108 => ?_) (fun c108 => absurd ((lgc_eq _ _).mpr rfl) c108)
                  have c108 := (lgc_eq (lN64 (us - (1 + u4))) (lN64 (us - (1 + u4)))).mp c108
                  refine v_iinc C 4 [(22, .int (nI (k + 1))), (28, .int 1), (26, .long (bSize s2 k q)), (24, .long (oV s2 (bT s2 k) q)), (23, .int (nI (1 + u4))), (20, .int (nI q)), (16, .int y0), (14, .int (nI t0)), (13, .int (nI (bN s2))), (12, .int (nI (rN s2))), (11, .int (nI (oN s2))), (10, .int (nI (oS s2).length)), (9, .int (nI N)), (8, .ref (ad 6)), (7, .ref (ad 5)), (6, .ref (ad 4)), (5, .ref (ad 3)), (4, .ref (ad 2)), (3, .ref (ad 1)), (2, .ref (ad 0)), (1, .ref x), (0, .ref sb)] rfl (nI_inc k 1 (by decide)) rfl (by decide) dL_law_2262 ?_
                  refine v_goto (tgt := 2000) C dL_law_2265 (by decide) ?_
                  refine v_lvp [0, 5, 6, 7, 8, 9, 10, 11, 12, 13, 14, 15, 16, 17, 18, 19, 20, 21] rfl ?_
                  refine v_widen (c2 := cs + 50 + 40 * (k + 1)) (s2 := sl + 9000 + 1000 * (k + 1)) (by omega) (by omega) ?_
                  exact ih1 (k + 1) h105 g105 (nUse s2 (nI k) (bU s2 (cl (nI k)) - (nI (1 + u4)).toInt64)) _ (by omega) (by show k + 1 ≤ bN s2; omega) ⟨xi105, (wf_refill hw2 (c_rf0 hB22 (show k < bN s2 by omega) (show 1 ≤ 1 + u4 by omega) (by omega) (by rw [hu3n]; exact fun z => absurd ((lq_lt (by omega) (by omega)).mp z) (by omega)))), lw105, (rs_use (w2 := 700 * (t0 + 1)) (v := (nI (us - (1 + u4)))) li2.2.2.2 (by omega) (by rw [cl_nI (show k < 2 ^ 31 by omega), hu3n]; exact lq_sub (by omega) (by omega)) (by rw [nI_toInt (by omega)]; omega) (by rw [nI_toInt (by omega)]; omega) (Nat.le_refl _))⟩ (fun j h1 hj => by
                        show (up2 U2 (4 * k + 3) _ (4 * j + 3)).toInt ≤ _
                        rw [up2_n (by omega)]; exact hlow2 j (by omega) hj) (by omega)
                · obtain ⟨-, w105⟩ := w105
                  rcases w105 with ⟨ek, -⟩ | ⟨ek, -⟩ | ⟨ek, -⟩
                  · exact absurd ((c_rf0 hB22 (by omega) (by omega) (by omega) (by rw [hu3n]; exact fun z => absurd ((lq_lt (by omega) (by omega)).mp z) (by omega))).symm.trans ek) (by decide)
                  · exact absurd ((c_rf0 hB22 (by omega) (by omega) (by omega) (by rw [hu3n]; exact fun z => absurd ((lq_lt (by omega) (by omega)).mp z) (by omega))).symm.trans ek) (by decide)
                  · exact absurd ((c_rf0 hB22 (by omega) (by omega) (by omega) (by rw [hu3n]; exact fun z => absurd ((lq_lt (by omega) (by omega)).mp z) (by omega))).symm.trans ek) (by decide)
              · have c97 := (nn_ge_f (a := us) (b := (1 + u4)) (by omega) (by omega)).mp c97
                refine v_goto (tgt := 2157) C dL_law_2135 (by decide) ?_
                refine v_aload_n C 20 rfl dL_law_2157 rfl ?_
                refine v_iload C 0 rfl dL_law_2158 ?_
                refine v_if_eq (tgt := 2168) C dL_law_2160 (by decide) (fun c110 => absurd c110 (by decide)) (fun c110 => ?_)
                refine v_bipush (v := 9) C dL_law_2163 (by decide) ?_
                refine v_goto (tgt := 2170) C dL_law_2165 (by decide) ?_
                refine v_iload C 4 rfl dL_law_2170 ?_
                refine v_iload C 0 rfl dL_law_2172 ?_
                refine v_if_eq (tgt := 2182) C dL_law_2174 (by decide) (fun c111 => absurd c111 (by decide)) (fun c111 => ?_)
                refine v_iload C 3 rfl dL_law_2177 ?_
                refine v_goto (tgt := 2184) C dL_law_2179 (by decide) ?_
                refine v_iload C 3 rfl dL_law_2184 ?_
                refine v_callL (rest := []) C hNc (c_L_refused_refill_3 l hl G x g92 s2 (nI k) (nI (1 + u4)) (nI (1 + u4)) h92 xi92 hw2 (c_rf3 hB22 (by omega) (by omega) (by omega) (by rw [hu3n]; exact (lq_lt (by omega) (by omega)).mpr (by omega)))) CL_L_151 rfl rfl (Nat.le_of_ble_eq_true rfl) ⟨Nat.le_of_ble_eq_true rfl, Nat.le_of_ble_eq_true rfl⟩ ⟨by show cs + 50 + 40 * k + 0 + 0 + 0 + 10 + 10 ≤ 670155; omega, by show sl + 9000 + 1000 * k + 0 + 0 + 0 + 200 + 200 ≤ 7091004; omega⟩ dL_law_2186 (fun r112 h112 w112 => ?_)
                obtain ⟨e112, rfl⟩ := w112; subst e112
                refine v_iconst (v := 3) C dL_law_2189 (by decide) ?_
                refine v_icmp_eq (tgt := 2262) C dL_law_2190 (by decide) (fun c113 => ?_) (fun c113 => absurd c113 (by decide))
                refine v_iinc C 4 [(22, .int (nI (k + 1))), (28, .int 1), (26, .long (bSize s2 k q)), (24, .long (oV s2 (bT s2 k) q)), (23, .int (nI (1 + u4))), (20, .int (nI q)), (16, .int y0), (14, .int (nI t0)), (13, .int (nI (bN s2))), (12, .int (nI (rN s2))), (11, .int (nI (oN s2))), (10, .int (nI (oS s2).length)), (9, .int (nI N)), (8, .ref (ad 6)), (7, .ref (ad 5)), (6, .ref (ad 4)), (5, .ref (ad 3)), (4, .ref (ad 2)), (3, .ref (ad 1)), (2, .ref (ad 0)), (1, .ref x), (0, .ref sb)] rfl (nI_inc k 1 (by decide)) rfl (by decide) dL_law_2262 ?_
                refine v_goto (tgt := 2000) C dL_law_2265 (by decide) ?_
                refine v_lvp [0, 5, 6, 7, 8, 9, 10, 11, 12, 13, 14, 15, 16, 17, 18, 19, 20, 21] rfl ?_
                refine v_widen (c2 := cs + 50 + 40 * (k + 1)) (s2 := sl + 9000 + 1000 * (k + 1)) (by omega) (by omega) ?_
                exact ih1 (k + 1) h92 g92 s2 U2 (by omega) (by omega) ⟨xi92, hw2, lw92, li2.2.2.2⟩ (fun j h1 hj => hlow2 j (by omega) hj) (by omega)
            · exact absurd ((c_siz hB22 (by omega) (by omega)).symm.trans w92.2.1) (by decide)
  refine v_lvp [0, 1, 2, 3, 4, 5, 6, 7, 8, 9, 10, 11, 12, 13, 14, 15, 16, 17] rfl ?_
  exact L1 3 0 h g s U (Nat.zero_le _) (Nat.zero_le _) li (fun j _ hj => (hlow j hj)) (by have := hU.1; omega)

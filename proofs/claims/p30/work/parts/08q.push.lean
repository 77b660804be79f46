set_option maxHeartbeats 8000000 in
set_option maxRecDepth 100000 in
theorem law_amount {zp : Program} {l : Launch} {ze : Env} {zs : State} {zm : MethodId} {zargs : Array Value} {zbelow : List Frame} {zmeth : Method} {zc : Code} {G : zG} (hl : l.stackTraces = false) (C : zOK zp l ze room_1 zs zm zargs zbelow zmeth zc G cL_law 29 RL) (hNc : zNc zs) {Q : State → Prop} {sb t0 : Nat} {h : zH} {g : XGh} {x : Nat} {ad : Nat → Nat} {s : ZS} {F : Nat → Nat} {A D : Nat → Int32} {VV : Nat → Nat} {B U : Nat → Int32} {S : Nat → Nat} {T : Nat → List Tok} {lv : Nat → Nat} {N : Nat} (cs sl : Nat) (hcs : cs + 1300 ≤ 670155) (hsl : sl + 45000 ≤ 7091004) (q tm ts up : Nat) (x0 y0 : Int32) (kd : Nat) (li : LI G h g x ad s F A D VV B U S T lv N (700 * t0)) (ht0 : t0 < 60) (hq : q < 9) (htm : tm < oN s ∨ (oN s = 0 ∧ tm = 0)) (hts : ts < rN s ∨ (rN s = 0 ∧ ts = 0)) (hup : 0 < (oS s).length → up = S ((oS s).length - 1))  (chk : ∀ (h2 : zH) (g2 : XGh) (s2 : ZS) (F2 : Nat → Nat) (A2 D2 : Nat → Int32) (VV2 : Nat → Nat) (B2 U2 : Nat → Int32) (S2 : Nat → Nat) (T2 : Nat → List Tok) (lv2 : Nat → Nat) (N2 : Nat), LI G h2 g2 x ad s2 F2 A2 D2 VV2 B2 U2 S2 T2 lv2 N2 (700 * (t0 + 1)) → V zp l ze room_1 zs zm zargs zbelow zmeth zc G 29 Q h2 (cs + 200) (sl + 20000) 2268 [(20, .int (nI q)), (16, .int y0), (14, .int (nI t0)), (13, .int (nI (bN s2))), (12, .int (nI (rN s2))), (11, .int (nI (oN s2))), (10, .int (nI (oS s2).length)), (9, .int (nI N2)), (8, .ref (ad 6)), (7, .ref (ad 5)), (6, .ref (ad 4)), (5, .ref (ad 3)), (4, .ref (ad 2)), (3, .ref (ad 1)), (2, .ref (ad 0)), (1, .ref x), (0, .ref sb)] []) (next : ∀ (h2 : zH) (g2 : XGh) (s2 : ZS) (F2 : Nat → Nat) (A2 D2 : Nat → Int32) (VV2 : Nat → Nat) (B2 U2 : Nat → Int32) (S2 : Nat → Nat) (T2 : Nat → List Tok) (lv2 : Nat → Nat) (N2 : Nat), LI G h2 g2 x ad s2 F2 A2 D2 VV2 B2 U2 S2 T2 lv2 N2 (700 * (t0 + 1)) → V zp l ze room_1 zs zm zargs zbelow zmeth zc G 29 Q h2 (cs + 1300) (sl + 45000) 2313 [(14, .int (nI t0)), (13, .int (nI (bN s2))), (12, .int (nI (rN s2))), (11, .int (nI (oN s2))), (10, .int (nI (oS s2).length)), (9, .int (nI N2)), (8, .ref (ad 6)), (7, .ref (ad 5)), (6, .ref (ad 4)), (5, .ref (ad 3)), (4, .ref (ad 2)), (3, .ref (ad 1)), (2, .ref (ad 0)), (1, .ref x), (0, .ref sb)] []) : V zp l ze room_1 zs zm zargs zbelow zmeth zc G 29 Q h (cs) (sl) 217 [(21, .int (nI up)), (20, .int (nI q)), (19, .int (nI ts)), (18, .int (nI tm)), (17, .int (nI kd)), (16, .int y0), (15, .int x0), (14, .int (nI t0)), (13, .int (nI (bN s))), (12, .int (nI (rN s))), (11, .int (nI (oN s))), (10, .int (nI (oS s).length)), (9, .int (nI N)), (8, .ref (ad 6)), (7, .ref (ad 5)), (6, .ref (ad 4)), (5, .ref (ad 3)), (4, .ref (ad 2)), (3, .ref (ad 1)), (2, .ref (ad 0)), (1, .ref x), (0, .ref sb)] [] := by
  obtain ⟨hi, hw, lx, he, hs, hV, hd, hT, hU⟩ := id li
  have hM := he.1
  have hN6 := he.2.1
  have hK8 := hw.1
  have hR2 := hT.1
  have hB2 := hU.1
  refine v_iload C 6 rfl dL_law_217 ?_
  refine v_iconst (v := 5) C dL_law_219 (by decide) ?_
  refine v_ishr C dL_law_220 (v_topi (fun i1 e1 => ?_))
  refine v_bipush (v := 6) C dL_law_221 (by decide) ?_
  refine v_callS (rest := []) C (c_L_low l hl G i1 6 h (by decide) (by omega)) S_L_178 rfl rfl (Nat.le_of_ble_eq_true rfl) ⟨Nat.le_of_ble_eq_true rfl, Nat.le_of_ble_eq_true rfl⟩ ⟨by show cs + 0 ≤ 670155; omega, by show sl + 0 ≤ 7091004; omega⟩ dL_law_223 (fun i2 h2 q2 => ?_)
  obtain ⟨e2, rfl⟩ := q2
  obtain ⟨u2, hu2, eu2⟩ : ∃ u, u < 6 ∧ lw i1 6 = u := ⟨_, lw_lt (by decide), rfl⟩
  rw [eu2] at e2; subst e2
  refine v_istore C [(22, .int (nI u2)), (21, .int (nI up)), (20, .int (nI q)), (19, .int (nI ts)), (18, .int (nI tm)), (17, .int (nI kd)), (16, .int y0), (15, .int x0), (14, .int (nI t0)), (13, .int (nI (bN s))), (12, .int (nI (rN s))), (11, .int (nI (oN s))), (10, .int (nI (oS s).length)), (9, .int (nI N)), (8, .ref (ad 6)), (7, .ref (ad 5)), (6, .ref (ad 4)), (5, .ref (ad 3)), (4, .ref (ad 2)), (3, .ref (ad 1)), (2, .ref (ad 0)), (1, .ref x), (0, .ref sb)] rfl (by decide) dL_law_226 ?_
  refine v_aload_n C 19 rfl dL_law_228 rfl ?_
  refine v_bipush (v := 10) C dL_law_229 (by decide) ?_
  refine v_iload C 0 rfl dL_law_231 ?_
  refine v_imul C dL_law_233 (v_eqi (nI_kml u2 10 (by decide)) ?_)
  refine v_iload C 2 rfl dL_law_234 ?_
  refine v_iadd C dL_law_236 (v_eqi (nI_add (10 * u2) q) ?_)
  refine v_iald C (lx.1.2.1) (vpin (show 10 * u2 + q < 60 by omega) (by decide)) dL_law_237 (v_eqi (y := (oA s u2 q)) ((congrArg A (nI_clamp (show 10 * u2 + q < 2 ^ 31 by omega))).trans ((he.2.2.2.1 u2 q (by omega) hq))) ?_)
  refine v_istore C [(23, .int (oA s u2 q)), (22, .int (nI u2)), (21, .int (nI up)), (20, .int (nI q)), (19, .int (nI ts)), (18, .int (nI tm)), (17, .int (nI kd)), (16, .int y0), (15, .int x0), (14, .int (nI t0)), (13, .int (nI (bN s))), (12, .int (nI (rN s))), (11, .int (nI (oN s))), (10, .int (nI (oS s).length)), (9, .int (nI N)), (8, .ref (ad 6)), (7, .ref (ad 5)), (6, .ref (ad 4)), (5, .ref (ad 3)), (4, .ref (ad 2)), (3, .ref (ad 1)), (2, .ref (ad 0)), (1, .ref x), (0, .ref sb)] rfl (by decide) dL_law_238 ?_
  refine v_aload_n C 20 rfl dL_law_240 rfl ?_
  refine v_bipush (v := 10) C dL_law_241 (by decide) ?_
  refine v_iload C 1 rfl dL_law_243 ?_
  refine v_imul C dL_law_245 (v_eqi (nI_kml u2 10 (by decide)) ?_)
  refine v_iload C 3 rfl dL_law_246 ?_
  refine v_iadd C dL_law_248 (v_eqi (nI_add (10 * u2) q) ?_)
  refine v_iload C 8 rfl dL_law_249 ?_
  refine v_bipush (v := 8) C dL_law_251 (by decide) ?_
  refine v_ishr C dL_law_253 (v_topi (fun i7 e7 => ?_))
  refine v_sipush (v := 4001) C dL_law_254 (by decide) ?_
  refine v_callS (rest := [.int (nI ((10 * u2) + q)), .ref (ad 1)]) C (c_L_low l hl G i7 4001 h (by decide) (by omega)) S_L_178 rfl rfl (Nat.le_of_ble_eq_true rfl) ⟨Nat.le_of_ble_eq_true rfl, Nat.le_of_ble_eq_true rfl⟩ ⟨by show cs + 0 + 0 ≤ 670155; omega, by show sl + 0 + 0 ≤ 7091004; omega⟩ dL_law_257 (fun i8 h8 q8 => ?_)
  obtain ⟨e8, rfl⟩ := q8
  obtain ⟨u8, hu8, eu8⟩ : ∃ u, u < 4001 ∧ lw i7 4001 = u := ⟨_, lw_lt (by decide), rfl⟩
  rw [eu8] at e8; subst e8
  refine v_sipush (v := 1000) C dL_law_260 (by decide) ?_
  refine v_isub C dL_law_263 (v_topi (fun i9 e9 => ?_))
  have hwv : wth i9 (-1000000) 1000000 := wth_sub (b := 1000) (n := 4000) e9 (by omega) (by decide) (by decide)
  refine v_iast C (lx.1.2.1) (vpin (show 10 * u2 + q < 60 by omega) (by decide)) dL_law_264 (v_nw (fun h10 eh10 => ?_))
  have lw10 := lx.p1 (i := 10 * u2 + q) (y := i9) (by omega) eh10
  have xi10 := lx.xi hi (i := 1) (by decide) eh10
  refine v_aload_n C 22 rfl dL_law_265 rfl ?_
  refine v_iload C 1 rfl dL_law_266 ?_
  refine v_iload C 3 rfl dL_law_268 ?_
  refine v_aload_n C 20 rfl dL_law_270 rfl ?_
  refine v_bipush (v := 10) C dL_law_271 (by decide) ?_
  refine v_iload C 1 rfl dL_law_273 ?_
  refine v_imul C dL_law_275 (v_eqi (nI_kml u2 10 (by decide)) ?_)
  refine v_iload C 3 rfl dL_law_276 ?_
  refine v_iadd C dL_law_278 (v_eqi (nI_add (10 * u2) q) ?_)
  refine v_iald C (lw10.1.2.1) (vpin (show 10 * u2 + q < 60 by omega) (by decide)) dL_law_279 (v_eqi (y := i9) ((congrArg (up2 A (10 * u2 + q) i9) (nI_clamp (show 10 * u2 + q < 2 ^ 31 by omega))).trans (up2_s)) ?_)
  refine v_callVX (rest := []) C (c_X4_amount l hl G x g s (nI u2) (nI q) i9 h10 xi10 hw) K_L_181 xi10.1.1.1 rfl rfl (Nat.le_of_ble_eq_true rfl) ⟨Nat.le_of_ble_eq_true rfl, Nat.le_of_ble_eq_true rfl⟩ ⟨by show cs + 0 + 0 + 10 ≤ 670155; omega, by show sl + 0 + 0 + 200 ≤ 7091004; omega⟩ dL_law_280 (fun r13 h13 w13 => ?_) (fun E13 h13 w13 => ?_)
  · obtain ⟨-, er13, g13, xi13, fz13⟩ := w13
    have lw13 := lw10.fr fz13
    have fr13 := fz13
    replace er13 := er13.trans (by rw [cl_nI (show u2 < 2 ^ 31 by omega), cl_nI (show q < 2 ^ 31 by omega)])
    subst er13
    refine v_iload C 0 rfl dL_law_283 ?_
    refine v_icmp_eq (tgt := 290) C dL_law_285 (by decide) (fun c14 => ?_) (fun c14 => absurd rfl c14)
    refine v_goto (tgt := 2268) C dL_law_290 (by decide) ?_
    refine v_lvp (lv2 := [(20, .int (nI q)), (16, .int y0), (14, .int (nI t0)), (13, .int (nI (bN (nAmount s (nI u2) (nI q) i9)))), (12, .int (nI (rN (nAmount s (nI u2) (nI q) i9)))), (11, .int (nI (oN (nAmount s (nI u2) (nI q) i9)))), (10, .int (nI (oS (nAmount s (nI u2) (nI q) i9)).length)), (9, .int (nI N)), (8, .ref (ad 6)), (7, .ref (ad 5)), (6, .ref (ad 4)), (5, .ref (ad 3)), (4, .ref (ad 2)), (3, .ref (ad 1)), (2, .ref (ad 0)), (1, .ref x), (0, .ref sb)]) [3, 7, 9, 10, 11, 12, 13, 14, 15, 16, 17, 18, 19, 20, 21, 22, 23] rfl ?_
    exact v_widen (by omega) (by omega) (chk _ _ _ _ _ _ _ _ _ _ _ _ _ ⟨xi13, (wf_amount hw (c_amt (v := i9) (show u2 < 6 by omega) (show q < 20 by omega) hwv)), lw13, ((rs_amount li.2.2.2 (show u2 < 6 by omega) hq).mono (by omega))⟩)
  · obtain ⟨-, w13⟩ := w13
    rcases w13 with ⟨ek, -⟩ | ⟨ek, -⟩
    · exact absurd ((c_amt (show u2 < 6 by omega) (show q < 20 by omega) hwv).symm.trans ek) (by decide)
    · exact absurd ((c_amt (show u2 < 6 by omega) (show q < 20 by omega) hwv).symm.trans ek) (by decide)
set_option maxHeartbeats 8000000 in
set_option maxRecDepth 100000 in
theorem law_account {zp : Program} {l : Launch} {ze : Env} {zs : State} {zm : MethodId} {zargs : Array Value} {zbelow : List Frame} {zmeth : Method} {zc : Code} {G : zG} (hl : l.stackTraces = false) (C : zOK zp l ze room_1 zs zm zargs zbelow zmeth zc G cL_law 29 RL) (hNc : zNc zs) {Q : State → Prop} {sb t0 : Nat} {h : zH} {g : XGh} {x : Nat} {ad : Nat → Nat} {s : ZS} {F : Nat → Nat} {A D : Nat → Int32} {VV : Nat → Nat} {B U : Nat → Int32} {S : Nat → Nat} {T : Nat → List Tok} {lv : Nat → Nat} {N : Nat} (cs sl : Nat) (hcs : cs + 1300 ≤ 670155) (hsl : sl + 45000 ≤ 7091004) (q tm ts up : Nat) (x0 y0 : Int32)  (li : LI G h g x ad s F A D VV B U S T lv N (700 * t0)) (ht0 : t0 < 60) (hq : q < 9) (htm : tm < oN s ∨ (oN s = 0 ∧ tm = 0)) (hts : ts < rN s ∨ (rN s = 0 ∧ ts = 0)) (hup : 0 < (oS s).length → up = S ((oS s).length - 1))  (chk : ∀ (h2 : zH) (g2 : XGh) (s2 : ZS) (F2 : Nat → Nat) (A2 D2 : Nat → Int32) (VV2 : Nat → Nat) (B2 U2 : Nat → Int32) (S2 : Nat → Nat) (T2 : Nat → List Tok) (lv2 : Nat → Nat) (N2 : Nat), LI G h2 g2 x ad s2 F2 A2 D2 VV2 B2 U2 S2 T2 lv2 N2 (700 * (t0 + 1)) → V zp l ze room_1 zs zm zargs zbelow zmeth zc G 29 Q h2 (cs + 200) (sl + 20000) 2268 [(20, .int (nI q)), (16, .int y0), (14, .int (nI t0)), (13, .int (nI (bN s2))), (12, .int (nI (rN s2))), (11, .int (nI (oN s2))), (10, .int (nI (oS s2).length)), (9, .int (nI N2)), (8, .ref (ad 6)), (7, .ref (ad 5)), (6, .ref (ad 4)), (5, .ref (ad 3)), (4, .ref (ad 2)), (3, .ref (ad 1)), (2, .ref (ad 0)), (1, .ref x), (0, .ref sb)] []) (next : ∀ (h2 : zH) (g2 : XGh) (s2 : ZS) (F2 : Nat → Nat) (A2 D2 : Nat → Int32) (VV2 : Nat → Nat) (B2 U2 : Nat → Int32) (S2 : Nat → Nat) (T2 : Nat → List Tok) (lv2 : Nat → Nat) (N2 : Nat), LI G h2 g2 x ad s2 F2 A2 D2 VV2 B2 U2 S2 T2 lv2 N2 (700 * (t0 + 1)) → V zp l ze room_1 zs zm zargs zbelow zmeth zc G 29 Q h2 (cs + 1300) (sl + 45000) 2313 [(14, .int (nI t0)), (13, .int (nI (bN s2))), (12, .int (nI (rN s2))), (11, .int (nI (oN s2))), (10, .int (nI (oS s2).length)), (9, .int (nI N2)), (8, .ref (ad 6)), (7, .ref (ad 5)), (6, .ref (ad 4)), (5, .ref (ad 3)), (4, .ref (ad 2)), (3, .ref (ad 1)), (2, .ref (ad 0)), (1, .ref x), (0, .ref sb)] []) : V zp l ze room_1 zs zm zargs zbelow zmeth zc G 29 Q h (cs) (sl) 299 [(21, .int (nI up)), (20, .int (nI q)), (19, .int (nI ts)), (18, .int (nI tm)), (17, .int (nI 2)), (16, .int y0), (15, .int x0), (14, .int (nI t0)), (13, .int (nI (bN s))), (12, .int (nI (rN s))), (11, .int (nI (oN s))), (10, .int (nI (oS s).length)), (9, .int (nI N)), (8, .ref (ad 6)), (7, .ref (ad 5)), (6, .ref (ad 4)), (5, .ref (ad 3)), (4, .ref (ad 2)), (3, .ref (ad 1)), (2, .ref (ad 0)), (1, .ref x), (0, .ref sb)] [] := by
  obtain ⟨hi, hw, lx, he, hs, hV, hd, hT, hU⟩ := id li
  have hM := he.1
  have hN6 := he.2.1
  have hK8 := hw.1
  have hR2 := hT.1
  have hB2 := hU.1
  refine v_iload C 4 rfl dL_law_299 ?_
  refine v_iconst (v := 2) C dL_law_301 (by decide) ?_
  refine v_icmp_ne (tgt := 309) C dL_law_302 (by decide) (fun c1 => absurd c1 (by decide)) (fun c1 => ?_)
  refine v_iconst (v := 4) C dL_law_305 (by decide) ?_
  refine v_goto (tgt := 321) C dL_law_306 (by decide) ?_
  refine v_istore C [(22, .int 4), (21, .int (nI up)), (20, .int (nI q)), (19, .int (nI ts)), (18, .int (nI tm)), (17, .int (nI 2)), (16, .int y0), (15, .int x0), (14, .int (nI t0)), (13, .int (nI (bN s))), (12, .int (nI (rN s))), (11, .int (nI (oN s))), (10, .int (nI (oS s).length)), (9, .int (nI N)), (8, .ref (ad 6)), (7, .ref (ad 5)), (6, .ref (ad 4)), (5, .ref (ad 3)), (4, .ref (ad 2)), (3, .ref (ad 1)), (2, .ref (ad 0)), (1, .ref x), (0, .ref sb)] rfl (by decide) dL_law_321 ?_
  refine v_iload C 13 rfl dL_law_323 ?_
  refine v_bipush (v := 15) C dL_law_325 (by decide) ?_
  refine v_icmp_ne (tgt := 344) C dL_law_327 (by decide) (fun c2 => ?_) (fun c2 => ?_)
  · have c2 := (nk_ne (a := N) 15 (by decide) (by omega) (by decide)).mp c2
    refine v_iload C 5 rfl dL_law_344 ?_
    refine v_iconst (v := 4) C dL_law_346 (by decide) ?_
    refine v_icmp_ne (tgt := 369) C dL_law_347 (by decide) (fun c3 => ?_) (fun c3 => absurd c3 (by decide))
    refine v_iload C 12 rfl dL_law_369 ?_
    refine v_bipush (v := 8) C dL_law_371 (by decide) ?_
    refine v_icmp_eq (tgt := 392) C dL_law_373 (by decide) (fun c4 => ?_) (fun c4 => ?_)
    · have c4 := (nk_eq (a := (oS s).length) 8 (by decide) (by omega) (by decide)).mp c4
      refine v_iload C 5 rfl dL_law_392 ?_
      refine v_iconst (v := 4) C dL_law_394 (by decide) ?_
      refine v_icmp_ne (tgt := 2313) C dL_law_395 (by decide) (fun c5 => ?_) (fun c5 => absurd c5 (by decide))
      refine v_lvp [8, 9, 10, 11, 12, 13, 14, 15, 16, 17, 18, 19, 20, 21, 22] rfl ?_
      exact v_widen (by omega) (by omega) (next _ _ _ _ _ _ _ _ _ _ _ _ _ ⟨hi, hw, lx, li.2.2.2.mono (by omega)⟩)
    · have c4 := (nk_eq_f (a := (oS s).length) 8 (by decide) (by omega) (by decide)).mp c4
      refine v_iload C 5 rfl dL_law_376 ?_
      refine v_iconst (v := 4) C dL_law_378 (by decide) ?_
      refine v_icmp_ne (tgt := 413) C dL_law_379 (by decide) (fun c6 => ?_) (fun c6 => absurd c6 (by decide))
      refine v_iload C 5 rfl dL_law_413 ?_
      refine v_iconst (v := 2) C dL_law_415 (by decide) ?_
      refine v_icmp_ne (tgt := 431) C dL_law_416 (by decide) (fun c7 => absurd c7 (by decide)) (fun c7 => ?_)
      refine v_iload C 7 rfl dL_law_419 ?_
      refine v_iconst (v := 5) C dL_law_421 (by decide) ?_
      refine v_ishr C dL_law_422 (v_topi (fun i8 e8 => ?_))
      refine v_bipush (v := 6) C dL_law_423 (by decide) ?_
      refine v_callS (rest := []) C (c_L_low l hl G i8 6 h (by decide) (by omega)) S_L_178 rfl rfl (Nat.le_of_ble_eq_true rfl) ⟨Nat.le_of_ble_eq_true rfl, Nat.le_of_ble_eq_true rfl⟩ ⟨by show cs + 0 ≤ 670155; omega, by show sl + 0 ≤ 7091004; omega⟩ dL_law_425 (fun i9 h9 q9 => ?_)
      obtain ⟨e9, rfl⟩ := q9
      obtain ⟨u9, hu9, eu9⟩ : ∃ u, u < 6 ∧ lw i8 6 = u := ⟨_, lw_lt (by decide), rfl⟩
      rw [eu9] at e9; subst e9
      refine v_goto (tgt := 469) C dL_law_428 (by decide) ?_
      refine v_istore C [(23, .int (nI u9)), (22, .int 4), (21, .int (nI up)), (20, .int (nI q)), (19, .int (nI ts)), (18, .int (nI tm)), (17, .int (nI 2)), (16, .int y0), (15, .int x0), (14, .int (nI t0)), (13, .int (nI (bN s))), (12, .int (nI (rN s))), (11, .int (nI (oN s))), (10, .int (nI (oS s).length)), (9, .int (nI N)), (8, .ref (ad 6)), (7, .ref (ad 5)), (6, .ref (ad 4)), (5, .ref (ad 3)), (4, .ref (ad 2)), (3, .ref (ad 1)), (2, .ref (ad 0)), (1, .ref x), (0, .ref sb)] rfl (by decide) dL_law_469 ?_
      refine v_aload_n C 21 rfl dL_law_471 rfl ?_
      refine v_iconst (v := 4) C dL_law_472 (by decide) ?_
      refine v_iload C 14 rfl dL_law_473 ?_
      refine v_imul C dL_law_475 (v_eqi (nI_kml N 4 (by decide)) ?_)
      refine v_iload C 1 rfl dL_law_476 ?_
      refine v_iast C (lx.1.1) (vpin (show 4 * N < 60 by omega) (by decide)) dL_law_478 (v_nw (fun h11 eh11 => ?_))
      have lw11 := lx.p0 (i := 4 * N) (v := 4) (by omega) eh11
      have xi11 := lx.xi hi (i := 0) (by decide) eh11
      refine v_aload_n C 21 rfl dL_law_479 rfl ?_
      refine v_iconst (v := 4) C dL_law_480 (by decide) ?_
      refine v_iload C 14 rfl dL_law_481 ?_
      refine v_imul C dL_law_483 (v_eqi (nI_kml N 4 (by decide)) ?_)
      refine v_iconst (v := 1) C dL_law_484 (by decide) ?_
      refine v_iadd C dL_law_485 (v_eqi (nI_adk (4 * N) 1 (by decide)) ?_)
      refine v_iload C 0 rfl dL_law_486 ?_
      refine v_iast C (lw11.1.1) (vpin (show 4 * N + 1 < 60 by omega) (by decide)) dL_law_488 (v_nw (fun h14 eh14 => ?_))
      have lw14 := lw11.p0 (i := 4 * N + 1) (v := u9) (by omega) eh14
      have xi14 := lw11.xi xi11 (i := 0) (by decide) eh14
      refine v_aload_n C 21 rfl dL_law_489 rfl ?_
      refine v_iconst (v := 4) C dL_law_490 (by decide) ?_
      refine v_iload C 14 rfl dL_law_491 ?_
      refine v_imul C dL_law_493 (v_eqi (nI_kml N 4 (by decide)) ?_)
      refine v_iconst (v := 3) C dL_law_494 (by decide) ?_
      refine v_iadd C dL_law_495 (v_eqi (nI_adk (4 * N) 3 (by decide)) ?_)
      refine v_iload C 6 rfl dL_law_496 ?_
      refine v_iconst (v := 4) C dL_law_498 (by decide) ?_
      refine v_icmp_ne (tgt := 512) C dL_law_499 (by decide) (fun c17 => ?_) (fun c17 => absurd c17 (by decide))
      refine v_iconst (v := 1) C dL_law_512 (by decide) ?_
      refine v_iast C (lw14.1.1) (vpin (show 4 * N + 3 < 60 by omega) (by decide)) dL_law_513 (v_nw (fun h18 eh18 => ?_))
      have lw18 := lw14.p0 (i := 4 * N + 3) (v := 1) (by omega) eh18
      have xi18 := lw14.xi xi14 (i := 0) (by decide) eh18
      refine v_aload C 15 rfl dL_law_514 ?_
      refine v_iload C 13 rfl dL_law_516 ?_
      refine v_iload C 14 rfl dL_law_518 ?_
      refine v_iast C (lw18.1.2.2.2.2.2.2) (vpin (show (oS s).length < 8 by omega) (by decide)) dL_law_520 (v_nw (fun h19 eh19 => ?_))
      have lw19 := lw18.p6 (i := (oS s).length) (v := N) (by omega) eh19
      have xi19 := lw18.xi xi18 (i := 6) (by decide) eh19
      refine v_iinc C 14 [(9, .int (nI (N + 1))), (23, .int (nI u9)), (22, .int 4), (21, .int (nI up)), (20, .int (nI q)), (19, .int (nI ts)), (18, .int (nI tm)), (17, .int (nI 2)), (16, .int y0), (15, .int x0), (14, .int (nI t0)), (13, .int (nI (bN s))), (12, .int (nI (rN s))), (11, .int (nI (oN s))), (10, .int (nI (oS s).length)), (8, .ref (ad 6)), (7, .ref (ad 5)), (6, .ref (ad 4)), (5, .ref (ad 3)), (4, .ref (ad 2)), (3, .ref (ad 1)), (2, .ref (ad 0)), (1, .ref x), (0, .ref sb)] rfl (nI_inc N 1 (by decide)) rfl (by decide) dL_law_521 ?_
      refine v_iinc C 14 [(10, .int (nI ((oS s).length + 1))), (9, .int (nI (N + 1))), (23, .int (nI u9)), (22, .int 4), (21, .int (nI up)), (20, .int (nI q)), (19, .int (nI ts)), (18, .int (nI tm)), (17, .int (nI 2)), (16, .int y0), (15, .int x0), (14, .int (nI t0)), (13, .int (nI (bN s))), (12, .int (nI (rN s))), (11, .int (nI (oN s))), (8, .ref (ad 6)), (7, .ref (ad 5)), (6, .ref (ad 4)), (5, .ref (ad 3)), (4, .ref (ad 2)), (3, .ref (ad 1)), (2, .ref (ad 0)), (1, .ref x), (0, .ref sb)] rfl (nI_inc ((oS s).length) 1 (by decide)) rfl (by decide) dL_law_524 ?_
      refine v_iload C 8 rfl dL_law_527 ?_
      refine v_iconst (v := 2) C dL_law_529 (by decide) ?_
      refine v_icmp_ne (tgt := 542) C dL_law_530 (by decide) (fun c22 => absurd c22 (by decide)) (fun c22 => ?_)
      refine v_aload_n C 22 rfl dL_law_533 rfl ?_
      refine v_iload C 2 rfl dL_law_534 ?_
      refine v_callVX (rest := []) C (c_X4_account l hl G x g s (nI u9) h19 xi19 hw) K_L_185 xi19.1.1.1 rfl rfl (Nat.le_of_ble_eq_true rfl) ⟨Nat.le_of_ble_eq_true rfl, Nat.le_of_ble_eq_true rfl⟩ ⟨by show cs + 0 + 10 ≤ 670155; omega, by show sl + 0 + 8000 ≤ 7091004; omega⟩ dL_law_536 (fun r23 h23 w23 => ?_) (fun E23 h23 w23 => ?_)
      · obtain ⟨-, er23, g23, xi23, fz23⟩ := w23
        have lw23 := lw19.fr fz23
        have fr23 := fz23
        replace er23 := er23.trans (rfl)
        subst er23
        have P0 : (upN (upN (upN F (4 * N) 4) (4 * N + 1) u9) (4 * N + 3) 1) (4 * N) = 4 := ((upN_n (by omega)).trans ((upN_n (by omega)).trans (upN_s)))
        have P1 : (upN (upN (upN F (4 * N) 4) (4 * N + 1) u9) (4 * N + 3) 1) (4 * N + 1) = u9 := ((upN_n (by omega)).trans (upN_s))
        have P3 : (upN (upN (upN F (4 * N) 4) (4 * N + 1) u9) (4 * N + 3) 1) (4 * N + 3) = 1 := (upN_s)
        refine v_goto (tgt := 563) C dL_law_539 (by decide) ?_
        refine v_iload C 0 rfl dL_law_563 ?_
        refine v_icmp_eq (tgt := 570) C dL_law_565 (by decide) (fun c24 => ?_) (fun c24 => absurd rfl c24)
        refine v_goto (tgt := 2268) C dL_law_570 (by decide) ?_
        have hlen : (oS (nPush s ([(4, cl (nI u9))], 1))).length = (oS s).length + 1 := (by show (oS s ++ [_]).length = _; rw [List.length_append]; rfl)
        refine v_lvp (lv2 := [(20, .int (nI q)), (16, .int y0), (14, .int (nI t0)), (13, .int (nI (bN (nPush s ([(4, cl (nI u9))], 1))))), (12, .int (nI (rN (nPush s ([(4, cl (nI u9))], 1))))), (11, .int (nI (oN (nPush s ([(4, cl (nI u9))], 1))))), (10, .int (nI (oS (nPush s ([(4, cl (nI u9))], 1))).length)), (9, .int (nI (N + 1))), (8, .ref (ad 6)), (7, .ref (ad 5)), (6, .ref (ad 4)), (5, .ref (ad 3)), (4, .ref (ad 2)), (3, .ref (ad 1)), (2, .ref (ad 0)), (1, .ref x), (0, .ref sb)]) [5, 9, 11, 12, 13, 14, 0, 1, 15, 16, 17, 18, 19, 20, 21, 22, 23] (by rw [hlen]; rfl) ?_
        exact v_widen (by omega) (by omega) (chk _ _ _ _ _ _ _ _ _ _ _ _ _ ⟨xi23, (wf_account hw (c_acc (show u9 < 6 by omega) (by omega))), lw23, (rs_new (F2 := (upN (upN (upN F (4 * N) 4) (4 * N + 1) u9) (4 * N + 3) 1)) (m := (oS s).length) (f := ([(4, cl (nI u9))], 1)) li.2.2.2 (by omega) (by omega) (show oS s ++ [([(4, cl (nI u9))], 1)] = _ by rw [List.take_length]) (fun j hj => (upN_n (by omega)).trans ((upN_n (by omega)).trans ((upN_n (by omega)).trans (rfl)))) (fe_new (F2 := (upN (upN (upN F (4 * N) 4) (4 * N + 1) u9) (4 * N + 3) 1)) (f := ([(4, cl (nI u9))], 1)) (Nat.le_refl _) (show 1 ≤ 6 by decide) P3 (Or.inl ⟨P0, by rw [P1]; omega, by show [(4, cl (nI u9))] = [(4, _)]; rw [P1, cl_nI (show u9 < 2 ^ 31 by omega)], rfl⟩))).mono (by omega)⟩)
      · obtain ⟨-, w23⟩ := w23
        rcases w23 with ⟨ek, -⟩ | ⟨ek, -⟩
        · exact absurd ((c_acc (show u9 < 6 by omega) (by omega)).symm.trans ek) (by decide)
        · exact absurd ((c_acc (show u9 < 6 by omega) (by omega)).symm.trans ek) (by decide)
  · have c2 := (nk_ne_f (a := N) 15 (by decide) (by omega) (by decide)).mp c2
    refine v_iload C 5 rfl dL_law_330 ?_
    refine v_iconst (v := 4) C dL_law_332 (by decide) ?_
    refine v_icmp_lt (tgt := 2313) C dL_law_333 (by decide) (fun c25 => ?_) (fun c25 => absurd c25 (by decide))
    refine v_lvp [8, 9, 10, 11, 12, 13, 14, 15, 16, 17, 18, 19, 20, 21, 22] rfl ?_
    exact v_widen (by omega) (by omega) (next _ _ _ _ _ _ _ _ _ _ _ _ _ ⟨hi, hw, lx, li.2.2.2.mono (by omega)⟩)
set_option maxHeartbeats 8000000 in
set_option maxRecDepth 100000 in
theorem law_number {zp : Program} {l : Launch} {ze : Env} {zs : State} {zm : MethodId} {zargs : Array Value} {zbelow : List Frame} {zmeth : Method} {zc : Code} {G : zG} (hl : l.stackTraces = false) (C : zOK zp l ze room_1 zs zm zargs zbelow zmeth zc G cL_law 29 RL) (hNc : zNc zs) {Q : State → Prop} {sb t0 : Nat} {h : zH} {g : XGh} {x : Nat} {ad : Nat → Nat} {s : ZS} {F : Nat → Nat} {A D : Nat → Int32} {VV : Nat → Nat} {B U : Nat → Int32} {S : Nat → Nat} {T : Nat → List Tok} {lv : Nat → Nat} {N : Nat} (cs sl : Nat) (hcs : cs + 1300 ≤ 670155) (hsl : sl + 45000 ≤ 7091004) (q tm ts up : Nat) (x0 y0 : Int32)  (li : LI G h g x ad s F A D VV B U S T lv N (700 * t0)) (ht0 : t0 < 60) (hq : q < 9) (htm : tm < oN s ∨ (oN s = 0 ∧ tm = 0)) (hts : ts < rN s ∨ (rN s = 0 ∧ ts = 0)) (hup : 0 < (oS s).length → up = S ((oS s).length - 1))  (chk : ∀ (h2 : zH) (g2 : XGh) (s2 : ZS) (F2 : Nat → Nat) (A2 D2 : Nat → Int32) (VV2 : Nat → Nat) (B2 U2 : Nat → Int32) (S2 : Nat → Nat) (T2 : Nat → List Tok) (lv2 : Nat → Nat) (N2 : Nat), LI G h2 g2 x ad s2 F2 A2 D2 VV2 B2 U2 S2 T2 lv2 N2 (700 * (t0 + 1)) → V zp l ze room_1 zs zm zargs zbelow zmeth zc G 29 Q h2 (cs + 200) (sl + 20000) 2268 [(20, .int (nI q)), (16, .int y0), (14, .int (nI t0)), (13, .int (nI (bN s2))), (12, .int (nI (rN s2))), (11, .int (nI (oN s2))), (10, .int (nI (oS s2).length)), (9, .int (nI N2)), (8, .ref (ad 6)), (7, .ref (ad 5)), (6, .ref (ad 4)), (5, .ref (ad 3)), (4, .ref (ad 2)), (3, .ref (ad 1)), (2, .ref (ad 0)), (1, .ref x), (0, .ref sb)] []) (next : ∀ (h2 : zH) (g2 : XGh) (s2 : ZS) (F2 : Nat → Nat) (A2 D2 : Nat → Int32) (VV2 : Nat → Nat) (B2 U2 : Nat → Int32) (S2 : Nat → Nat) (T2 : Nat → List Tok) (lv2 : Nat → Nat) (N2 : Nat), LI G h2 g2 x ad s2 F2 A2 D2 VV2 B2 U2 S2 T2 lv2 N2 (700 * (t0 + 1)) → V zp l ze room_1 zs zm zargs zbelow zmeth zc G 29 Q h2 (cs + 1300) (sl + 45000) 2313 [(14, .int (nI t0)), (13, .int (nI (bN s2))), (12, .int (nI (rN s2))), (11, .int (nI (oN s2))), (10, .int (nI (oS s2).length)), (9, .int (nI N2)), (8, .ref (ad 6)), (7, .ref (ad 5)), (6, .ref (ad 4)), (5, .ref (ad 3)), (4, .ref (ad 2)), (3, .ref (ad 1)), (2, .ref (ad 0)), (1, .ref x), (0, .ref sb)] []) : V zp l ze room_1 zs zm zargs zbelow zmeth zc G 29 Q h (cs) (sl) 299 [(21, .int (nI up)), (20, .int (nI q)), (19, .int (nI ts)), (18, .int (nI tm)), (17, .int (nI 3)), (16, .int y0), (15, .int x0), (14, .int (nI t0)), (13, .int (nI (bN s))), (12, .int (nI (rN s))), (11, .int (nI (oN s))), (10, .int (nI (oS s).length)), (9, .int (nI N)), (8, .ref (ad 6)), (7, .ref (ad 5)), (6, .ref (ad 4)), (5, .ref (ad 3)), (4, .ref (ad 2)), (3, .ref (ad 1)), (2, .ref (ad 0)), (1, .ref x), (0, .ref sb)] [] := by
  obtain ⟨hi, hw, lx, he, hs, hV, hd, hT, hU⟩ := id li
  have hM := he.1
  have hN6 := he.2.1
  have hK8 := hw.1
  have hR2 := hT.1
  have hB2 := hU.1
  refine v_iload C 4 rfl dL_law_299 ?_
  refine v_iconst (v := 2) C dL_law_301 (by decide) ?_
  refine v_icmp_ne (tgt := 309) C dL_law_302 (by decide) (fun c1 => ?_) (fun c1 => absurd c1 (by decide))
  refine v_iload C 4 rfl dL_law_309 ?_
  refine v_iconst (v := 3) C dL_law_311 (by decide) ?_
  refine v_icmp_ne (tgt := 319) C dL_law_312 (by decide) (fun c2 => absurd c2 (by decide)) (fun c2 => ?_)
  refine v_iconst (v := 5) C dL_law_315 (by decide) ?_
  refine v_goto (tgt := 321) C dL_law_316 (by decide) ?_
  refine v_istore C [(22, .int 5), (21, .int (nI up)), (20, .int (nI q)), (19, .int (nI ts)), (18, .int (nI tm)), (17, .int (nI 3)), (16, .int y0), (15, .int x0), (14, .int (nI t0)), (13, .int (nI (bN s))), (12, .int (nI (rN s))), (11, .int (nI (oN s))), (10, .int (nI (oS s).length)), (9, .int (nI N)), (8, .ref (ad 6)), (7, .ref (ad 5)), (6, .ref (ad 4)), (5, .ref (ad 3)), (4, .ref (ad 2)), (3, .ref (ad 1)), (2, .ref (ad 0)), (1, .ref x), (0, .ref sb)] rfl (by decide) dL_law_321 ?_
  refine v_iload C 13 rfl dL_law_323 ?_
  refine v_bipush (v := 15) C dL_law_325 (by decide) ?_
  refine v_icmp_ne (tgt := 344) C dL_law_327 (by decide) (fun c3 => ?_) (fun c3 => ?_)
  · have c3 := (nk_ne (a := N) 15 (by decide) (by omega) (by decide)).mp c3
    refine v_iload C 5 rfl dL_law_344 ?_
    refine v_iconst (v := 4) C dL_law_346 (by decide) ?_
    refine v_icmp_ne (tgt := 369) C dL_law_347 (by decide) (fun c4 => ?_) (fun c4 => absurd c4 (by decide))
    refine v_iload C 12 rfl dL_law_369 ?_
    refine v_bipush (v := 8) C dL_law_371 (by decide) ?_
    refine v_icmp_eq (tgt := 392) C dL_law_373 (by decide) (fun c5 => ?_) (fun c5 => ?_)
    · have c5 := (nk_eq (a := (oS s).length) 8 (by decide) (by omega) (by decide)).mp c5
      refine v_iload C 5 rfl dL_law_392 ?_
      refine v_iconst (v := 4) C dL_law_394 (by decide) ?_
      refine v_icmp_ne (tgt := 2313) C dL_law_395 (by decide) (fun c6 => ?_) (fun c6 => absurd c6 (by decide))
      refine v_lvp [8, 9, 10, 11, 12, 13, 14, 15, 16, 17, 18, 19, 20, 21, 22] rfl ?_
      exact v_widen (by omega) (by omega) (next _ _ _ _ _ _ _ _ _ _ _ _ _ ⟨hi, hw, lx, li.2.2.2.mono (by omega)⟩)
    · have c5 := (nk_eq_f (a := (oS s).length) 8 (by decide) (by omega) (by decide)).mp c5
      refine v_iload C 5 rfl dL_law_376 ?_
      refine v_iconst (v := 4) C dL_law_378 (by decide) ?_
      refine v_icmp_ne (tgt := 413) C dL_law_379 (by decide) (fun c7 => ?_) (fun c7 => absurd c7 (by decide))
      refine v_iload C 5 rfl dL_law_413 ?_
      refine v_iconst (v := 2) C dL_law_415 (by decide) ?_
      refine v_icmp_ne (tgt := 431) C dL_law_416 (by decide) (fun c8 => ?_) (fun c8 => absurd c8 (by decide))
      refine v_iload C 5 rfl dL_law_431 ?_
      refine v_iconst (v := 3) C dL_law_433 (by decide) ?_
      refine v_icmp_ne (tgt := 467) C dL_law_434 (by decide) (fun c9 => absurd c9 (by decide)) (fun c9 => ?_)
      refine v_iload C 7 rfl dL_law_437 ?_
      refine v_iconst (v := 5) C dL_law_439 (by decide) ?_
      refine v_ishr C dL_law_440 (v_topi (fun i10 e10 => ?_))
      refine v_iload C 7 rfl dL_law_441 ?_
      refine v_bipush (v := 26) C dL_law_443 (by decide) ?_
      refine v_ishr C dL_law_445 (v_topi (fun i11 e11 => ?_))
      refine v_iconst (v := 2) C dL_law_446 (by decide) ?_
      refine v_callS (rest := [.int i10]) C (c_L_low l hl G i11 2 h (by decide) (by omega)) S_L_178 rfl rfl (Nat.le_of_ble_eq_true rfl) ⟨Nat.le_of_ble_eq_true rfl, Nat.le_of_ble_eq_true rfl⟩ ⟨by show cs + 0 ≤ 670155; omega, by show sl + 0 ≤ 7091004; omega⟩ dL_law_447 (fun i12 h12 q12 => ?_)
      obtain ⟨e12, rfl⟩ := q12
      obtain ⟨u12, hu12, eu12⟩ : ∃ u, u < 2 ∧ lw i11 2 = u := ⟨_, lw_lt (by decide), rfl⟩
      rw [eu12] at e12; subst e12
      refine v_if_ne (tgt := 458) C dL_law_450 (by decide) (fun c13 => ?_) (fun c13 => ?_)
      · have c13 := (nk_ne (a := u12) 0 (by decide) (by omega) (by decide)).mp c13
        refine v_sipush (v := 300) C dL_law_458 (by decide) ?_
        refine v_callS (rest := []) C (c_L_low l hl G i10 300 h (by decide) (by omega)) S_L_178 rfl rfl (Nat.le_of_ble_eq_true rfl) ⟨Nat.le_of_ble_eq_true rfl, Nat.le_of_ble_eq_true rfl⟩ ⟨by show cs + 0 + 0 ≤ 670155; omega, by show sl + 0 + 0 ≤ 7091004; omega⟩ dL_law_461 (fun i14 h14 q14 => ?_)
        obtain ⟨e14, rfl⟩ := q14
        obtain ⟨u14, hu14, eu14⟩ : ∃ u, u < 300 ∧ lw i10 300 = u := ⟨_, lw_lt (by decide), rfl⟩
        rw [eu14] at e14; subst e14
        refine v_goto (tgt := 469) C dL_law_464 (by decide) ?_
        refine v_istore C [(23, .int (nI u14)), (22, .int 5), (21, .int (nI up)), (20, .int (nI q)), (19, .int (nI ts)), (18, .int (nI tm)), (17, .int (nI 3)), (16, .int y0), (15, .int x0), (14, .int (nI t0)), (13, .int (nI (bN s))), (12, .int (nI (rN s))), (11, .int (nI (oN s))), (10, .int (nI (oS s).length)), (9, .int (nI N)), (8, .ref (ad 6)), (7, .ref (ad 5)), (6, .ref (ad 4)), (5, .ref (ad 3)), (4, .ref (ad 2)), (3, .ref (ad 1)), (2, .ref (ad 0)), (1, .ref x), (0, .ref sb)] rfl (by decide) dL_law_469 ?_
        refine v_aload_n C 21 rfl dL_law_471 rfl ?_
        refine v_iconst (v := 4) C dL_law_472 (by decide) ?_
        refine v_iload C 14 rfl dL_law_473 ?_
        refine v_imul C dL_law_475 (v_eqi (nI_kml N 4 (by decide)) ?_)
        refine v_iload C 1 rfl dL_law_476 ?_
        refine v_iast C (lx.1.1) (vpin (show 4 * N < 60 by omega) (by decide)) dL_law_478 (v_nw (fun h16 eh16 => ?_))
        have lw16 := lx.p0 (i := 4 * N) (v := 5) (by omega) eh16
        have xi16 := lx.xi hi (i := 0) (by decide) eh16
        refine v_aload_n C 21 rfl dL_law_479 rfl ?_
        refine v_iconst (v := 4) C dL_law_480 (by decide) ?_
        refine v_iload C 14 rfl dL_law_481 ?_
        refine v_imul C dL_law_483 (v_eqi (nI_kml N 4 (by decide)) ?_)
        refine v_iconst (v := 1) C dL_law_484 (by decide) ?_
        refine v_iadd C dL_law_485 (v_eqi (nI_adk (4 * N) 1 (by decide)) ?_)
        refine v_iload C 0 rfl dL_law_486 ?_
        refine v_iast C (lw16.1.1) (vpin (show 4 * N + 1 < 60 by omega) (by decide)) dL_law_488 (v_nw (fun h19 eh19 => ?_))
        have lw19 := lw16.p0 (i := 4 * N + 1) (v := u14) (by omega) eh19
        have xi19 := lw16.xi xi16 (i := 0) (by decide) eh19
        refine v_aload_n C 21 rfl dL_law_489 rfl ?_
        refine v_iconst (v := 4) C dL_law_490 (by decide) ?_
        refine v_iload C 14 rfl dL_law_491 ?_
        refine v_imul C dL_law_493 (v_eqi (nI_kml N 4 (by decide)) ?_)
        refine v_iconst (v := 3) C dL_law_494 (by decide) ?_
        refine v_iadd C dL_law_495 (v_eqi (nI_adk (4 * N) 3 (by decide)) ?_)
        refine v_iload C 6 rfl dL_law_496 ?_
        refine v_iconst (v := 4) C dL_law_498 (by decide) ?_
        refine v_icmp_ne (tgt := 512) C dL_law_499 (by decide) (fun c22 => ?_) (fun c22 => absurd c22 (by decide))
        refine v_iconst (v := 1) C dL_law_512 (by decide) ?_
        refine v_iast C (lw19.1.1) (vpin (show 4 * N + 3 < 60 by omega) (by decide)) dL_law_513 (v_nw (fun h23 eh23 => ?_))
        have lw23 := lw19.p0 (i := 4 * N + 3) (v := 1) (by omega) eh23
        have xi23 := lw19.xi xi19 (i := 0) (by decide) eh23
        refine v_aload C 15 rfl dL_law_514 ?_
        refine v_iload C 13 rfl dL_law_516 ?_
        refine v_iload C 14 rfl dL_law_518 ?_
        refine v_iast C (lw23.1.2.2.2.2.2.2) (vpin (show (oS s).length < 8 by omega) (by decide)) dL_law_520 (v_nw (fun h24 eh24 => ?_))
        have lw24 := lw23.p6 (i := (oS s).length) (v := N) (by omega) eh24
        have xi24 := lw23.xi xi23 (i := 6) (by decide) eh24
        refine v_iinc C 14 [(9, .int (nI (N + 1))), (23, .int (nI u14)), (22, .int 5), (21, .int (nI up)), (20, .int (nI q)), (19, .int (nI ts)), (18, .int (nI tm)), (17, .int (nI 3)), (16, .int y0), (15, .int x0), (14, .int (nI t0)), (13, .int (nI (bN s))), (12, .int (nI (rN s))), (11, .int (nI (oN s))), (10, .int (nI (oS s).length)), (8, .ref (ad 6)), (7, .ref (ad 5)), (6, .ref (ad 4)), (5, .ref (ad 3)), (4, .ref (ad 2)), (3, .ref (ad 1)), (2, .ref (ad 0)), (1, .ref x), (0, .ref sb)] rfl (nI_inc N 1 (by decide)) rfl (by decide) dL_law_521 ?_
        refine v_iinc C 14 [(10, .int (nI ((oS s).length + 1))), (9, .int (nI (N + 1))), (23, .int (nI u14)), (22, .int 5), (21, .int (nI up)), (20, .int (nI q)), (19, .int (nI ts)), (18, .int (nI tm)), (17, .int (nI 3)), (16, .int y0), (15, .int x0), (14, .int (nI t0)), (13, .int (nI (bN s))), (12, .int (nI (rN s))), (11, .int (nI (oN s))), (8, .ref (ad 6)), (7, .ref (ad 5)), (6, .ref (ad 4)), (5, .ref (ad 3)), (4, .ref (ad 2)), (3, .ref (ad 1)), (2, .ref (ad 0)), (1, .ref x), (0, .ref sb)] rfl (nI_inc ((oS s).length) 1 (by decide)) rfl (by decide) dL_law_524 ?_
        refine v_iload C 8 rfl dL_law_527 ?_
        refine v_iconst (v := 2) C dL_law_529 (by decide) ?_
        refine v_icmp_ne (tgt := 542) C dL_law_530 (by decide) (fun c27 => ?_) (fun c27 => absurd c27 (by decide))
        refine v_iload C 8 rfl dL_law_542 ?_
        refine v_iconst (v := 3) C dL_law_544 (by decide) ?_
        refine v_icmp_ne (tgt := 557) C dL_law_545 (by decide) (fun c28 => absurd c28 (by decide)) (fun c28 => ?_)
        refine v_aload_n C 22 rfl dL_law_548 rfl ?_
        refine v_iload C 2 rfl dL_law_549 ?_
        refine v_callVX (rest := []) C (c_X4_number l hl G x g s (nI u14) h24 xi24 hw) K_L_188 xi24.1.1.1 rfl rfl (Nat.le_of_ble_eq_true rfl) ⟨Nat.le_of_ble_eq_true rfl, Nat.le_of_ble_eq_true rfl⟩ ⟨by show cs + 0 + 0 + 10 ≤ 670155; omega, by show sl + 0 + 0 + 8000 ≤ 7091004; omega⟩ dL_law_551 (fun r29 h29 w29 => ?_) (fun E29 h29 w29 => ?_)
        · obtain ⟨-, er29, g29, xi29, fz29⟩ := w29
          have lw29 := lw24.fr fz29
          have fr29 := fz29
          replace er29 := er29.trans (rfl)
          subst er29
          have P0 : (upN (upN (upN F (4 * N) 5) (4 * N + 1) u14) (4 * N + 3) 1) (4 * N) = 5 := ((upN_n (by omega)).trans ((upN_n (by omega)).trans (upN_s)))
          have P1 : (upN (upN (upN F (4 * N) 5) (4 * N + 1) u14) (4 * N + 3) 1) (4 * N + 1) = u14 := ((upN_n (by omega)).trans (upN_s))
          have P3 : (upN (upN (upN F (4 * N) 5) (4 * N + 1) u14) (4 * N + 3) 1) (4 * N + 3) = 1 := (upN_s)
          refine v_goto (tgt := 563) C dL_law_554 (by decide) ?_
          refine v_iload C 0 rfl dL_law_563 ?_
          refine v_icmp_eq (tgt := 570) C dL_law_565 (by decide) (fun c30 => ?_) (fun c30 => absurd rfl c30)
          refine v_goto (tgt := 2268) C dL_law_570 (by decide) ?_
          have hlen : (oS (nPush s ([(5, cl (nI u14))], 1))).length = (oS s).length + 1 := (by show (oS s ++ [_]).length = _; rw [List.length_append]; rfl)
          refine v_lvp (lv2 := [(20, .int (nI q)), (16, .int y0), (14, .int (nI t0)), (13, .int (nI (bN (nPush s ([(5, cl (nI u14))], 1))))), (12, .int (nI (rN (nPush s ([(5, cl (nI u14))], 1))))), (11, .int (nI (oN (nPush s ([(5, cl (nI u14))], 1))))), (10, .int (nI (oS (nPush s ([(5, cl (nI u14))], 1))).length)), (9, .int (nI (N + 1))), (8, .ref (ad 6)), (7, .ref (ad 5)), (6, .ref (ad 4)), (5, .ref (ad 3)), (4, .ref (ad 2)), (3, .ref (ad 1)), (2, .ref (ad 0)), (1, .ref x), (0, .ref sb)]) [5, 9, 11, 12, 13, 14, 0, 1, 15, 16, 17, 18, 19, 20, 21, 22, 23] (by rw [hlen]; rfl) ?_
          exact v_widen (by omega) (by omega) (chk _ _ _ _ _ _ _ _ _ _ _ _ _ ⟨xi29, (wf_number hw (c_num (show u14 ≤ 1000000 by omega) (by omega))), lw29, (rs_new (F2 := (upN (upN (upN F (4 * N) 5) (4 * N + 1) u14) (4 * N + 3) 1)) (m := (oS s).length) (f := ([(5, cl (nI u14))], 1)) li.2.2.2 (by omega) (by omega) (show oS s ++ [([(5, cl (nI u14))], 1)] = _ by rw [List.take_length]) (fun j hj => (upN_n (by omega)).trans ((upN_n (by omega)).trans ((upN_n (by omega)).trans (rfl)))) (fe_new (F2 := (upN (upN (upN F (4 * N) 5) (4 * N + 1) u14) (4 * N + 3) 1)) (f := ([(5, cl (nI u14))], 1)) (Nat.le_refl _) (show 1 ≤ 6 by decide) P3 (Or.inr (Or.inl ⟨P0, by rw [P1]; omega, by show [(5, cl (nI u14))] = [(5, _)]; rw [P1, cl_nI (show u14 < 2 ^ 31 by omega)], rfl⟩)))).mono (by omega)⟩)
        · obtain ⟨-, w29⟩ := w29
          rcases w29 with ⟨ek, -⟩ | ⟨ek, -⟩
          · exact absurd ((c_num (show u14 ≤ 1000000 by omega) (by omega)).symm.trans ek) (by decide)
          · exact absurd ((c_num (show u14 ≤ 1000000 by omega) (by omega)).symm.trans ek) (by decide)
      · have c13 := (nk_ne_f (a := u12) 0 (by decide) (by omega) (by decide)).mp c13
        refine v_ldc C KO_L_184 dL_law_453 ?_
        refine v_goto (tgt := 461) C dL_law_455 (by decide) ?_
        refine v_callS (rest := []) C (c_L_low l hl G i10 1000001 h (by decide) (by omega)) S_L_178 rfl rfl (Nat.le_of_ble_eq_true rfl) ⟨Nat.le_of_ble_eq_true rfl, Nat.le_of_ble_eq_true rfl⟩ ⟨by show cs + 0 + 0 ≤ 670155; omega, by show sl + 0 + 0 ≤ 7091004; omega⟩ dL_law_461 (fun i31 h31 q31 => ?_)
        obtain ⟨e31, rfl⟩ := q31
        obtain ⟨u31, hu31, eu31⟩ : ∃ u, u < 1000001 ∧ lw i10 1000001 = u := ⟨_, lw_lt (by decide), rfl⟩
        rw [eu31] at e31; subst e31
        refine v_goto (tgt := 469) C dL_law_464 (by decide) ?_
        refine v_istore C [(23, .int (nI u31)), (22, .int 5), (21, .int (nI up)), (20, .int (nI q)), (19, .int (nI ts)), (18, .int (nI tm)), (17, .int (nI 3)), (16, .int y0), (15, .int x0), (14, .int (nI t0)), (13, .int (nI (bN s))), (12, .int (nI (rN s))), (11, .int (nI (oN s))), (10, .int (nI (oS s).length)), (9, .int (nI N)), (8, .ref (ad 6)), (7, .ref (ad 5)), (6, .ref (ad 4)), (5, .ref (ad 3)), (4, .ref (ad 2)), (3, .ref (ad 1)), (2, .ref (ad 0)), (1, .ref x), (0, .ref sb)] rfl (by decide) dL_law_469 ?_
        refine v_aload_n C 21 rfl dL_law_471 rfl ?_
        refine v_iconst (v := 4) C dL_law_472 (by decide) ?_
        refine v_iload C 14 rfl dL_law_473 ?_
        refine v_imul C dL_law_475 (v_eqi (nI_kml N 4 (by decide)) ?_)
        refine v_iload C 1 rfl dL_law_476 ?_
        refine v_iast C (lx.1.1) (vpin (show 4 * N < 60 by omega) (by decide)) dL_law_478 (v_nw (fun h33 eh33 => ?_))
        have lw33 := lx.p0 (i := 4 * N) (v := 5) (by omega) eh33
        have xi33 := lx.xi hi (i := 0) (by decide) eh33
        refine v_aload_n C 21 rfl dL_law_479 rfl ?_
        refine v_iconst (v := 4) C dL_law_480 (by decide) ?_
        refine v_iload C 14 rfl dL_law_481 ?_
        refine v_imul C dL_law_483 (v_eqi (nI_kml N 4 (by decide)) ?_)
        refine v_iconst (v := 1) C dL_law_484 (by decide) ?_
        refine v_iadd C dL_law_485 (v_eqi (nI_adk (4 * N) 1 (by decide)) ?_)
        refine v_iload C 0 rfl dL_law_486 ?_
        refine v_iast C (lw33.1.1) (vpin (show 4 * N + 1 < 60 by omega) (by decide)) dL_law_488 (v_nw (fun h36 eh36 => ?_))
        have lw36 := lw33.p0 (i := 4 * N + 1) (v := u31) (by omega) eh36
        have xi36 := lw33.xi xi33 (i := 0) (by decide) eh36
        refine v_aload_n C 21 rfl dL_law_489 rfl ?_
        refine v_iconst (v := 4) C dL_law_490 (by decide) ?_
        refine v_iload C 14 rfl dL_law_491 ?_
        refine v_imul C dL_law_493 (v_eqi (nI_kml N 4 (by decide)) ?_)
        refine v_iconst (v := 3) C dL_law_494 (by decide) ?_
        refine v_iadd C dL_law_495 (v_eqi (nI_adk (4 * N) 3 (by decide)) ?_)
        refine v_iload C 6 rfl dL_law_496 ?_
        refine v_iconst (v := 4) C dL_law_498 (by decide) ?_
        refine v_icmp_ne (tgt := 512) C dL_law_499 (by decide) (fun c39 => ?_) (fun c39 => absurd c39 (by decide))
        refine v_iconst (v := 1) C dL_law_512 (by decide) ?_
        refine v_iast C (lw36.1.1) (vpin (show 4 * N + 3 < 60 by omega) (by decide)) dL_law_513 (v_nw (fun h40 eh40 => ?_))
        have lw40 := lw36.p0 (i := 4 * N + 3) (v := 1) (by omega) eh40
        have xi40 := lw36.xi xi36 (i := 0) (by decide) eh40
        refine v_aload C 15 rfl dL_law_514 ?_
        refine v_iload C 13 rfl dL_law_516 ?_
        refine v_iload C 14 rfl dL_law_518 ?_
        refine v_iast C (lw40.1.2.2.2.2.2.2) (vpin (show (oS s).length < 8 by omega) (by decide)) dL_law_520 (v_nw (fun h41 eh41 => ?_))
        have lw41 := lw40.p6 (i := (oS s).length) (v := N) (by omega) eh41
        have xi41 := lw40.xi xi40 (i := 6) (by decide) eh41
        refine v_iinc C 14 [(9, .int (nI (N + 1))), (23, .int (nI u31)), (22, .int 5), (21, .int (nI up)), (20, .int (nI q)), (19, .int (nI ts)), (18, .int (nI tm)), (17, .int (nI 3)), (16, .int y0), (15, .int x0), (14, .int (nI t0)), (13, .int (nI (bN s))), (12, .int (nI (rN s))), (11, .int (nI (oN s))), (10, .int (nI (oS s).length)), (8, .ref (ad 6)), (7, .ref (ad 5)), (6, .ref (ad 4)), (5, .ref (ad 3)), (4, .ref (ad 2)), (3, .ref (ad 1)), (2, .ref (ad 0)), (1, .ref x), (0, .ref sb)] rfl (nI_inc N 1 (by decide)) rfl (by decide) dL_law_521 ?_
        refine v_iinc C 14 [(10, .int (nI ((oS s).length + 1))), (9, .int (nI (N + 1))), (23, .int (nI u31)), (22, .int 5), (21, .int (nI up)), (20, .int (nI q)), (19, .int (nI ts)), (18, .int (nI tm)), (17, .int (nI 3)), (16, .int y0), (15, .int x0), (14, .int (nI t0)), (13, .int (nI (bN s))), (12, .int (nI (rN s))), (11, .int (nI (oN s))), (8, .ref (ad 6)), (7, .ref (ad 5)), (6, .ref (ad 4)), (5, .ref (ad 3)), (4, .ref (ad 2)), (3, .ref (ad 1)), (2, .ref (ad 0)), (1, .ref x), (0, .ref sb)] rfl (nI_inc ((oS s).length) 1 (by decide)) rfl (by decide) dL_law_524 ?_
        refine v_iload C 8 rfl dL_law_527 ?_
        refine v_iconst (v := 2) C dL_law_529 (by decide) ?_
        refine v_icmp_ne (tgt := 542) C dL_law_530 (by decide) (fun c44 => ?_) (fun c44 => absurd c44 (by decide))
        refine v_iload C 8 rfl dL_law_542 ?_
        refine v_iconst (v := 3) C dL_law_544 (by decide) ?_
        refine v_icmp_ne (tgt := 557) C dL_law_545 (by decide) (fun c45 => absurd c45 (by decide)) (fun c45 => ?_)
        refine v_aload_n C 22 rfl dL_law_548 rfl ?_
        refine v_iload C 2 rfl dL_law_549 ?_
        refine v_callVX (rest := []) C (c_X4_number l hl G x g s (nI u31) h41 xi41 hw) K_L_188 xi41.1.1.1 rfl rfl (Nat.le_of_ble_eq_true rfl) ⟨Nat.le_of_ble_eq_true rfl, Nat.le_of_ble_eq_true rfl⟩ ⟨by show cs + 0 + 0 + 10 ≤ 670155; omega, by show sl + 0 + 0 + 8000 ≤ 7091004; omega⟩ dL_law_551 (fun r46 h46 w46 => ?_) (fun E46 h46 w46 => ?_)
        · obtain ⟨-, er46, g46, xi46, fz46⟩ := w46
          have lw46 := lw41.fr fz46
          have fr46 := fz46
          replace er46 := er46.trans (rfl)
          subst er46
          have P0 : (upN (upN (upN F (4 * N) 5) (4 * N + 1) u31) (4 * N + 3) 1) (4 * N) = 5 := ((upN_n (by omega)).trans ((upN_n (by omega)).trans (upN_s)))
          have P1 : (upN (upN (upN F (4 * N) 5) (4 * N + 1) u31) (4 * N + 3) 1) (4 * N + 1) = u31 := ((upN_n (by omega)).trans (upN_s))
          have P3 : (upN (upN (upN F (4 * N) 5) (4 * N + 1) u31) (4 * N + 3) 1) (4 * N + 3) = 1 := (upN_s)
          refine v_goto (tgt := 563) C dL_law_554 (by decide) ?_
          refine v_iload C 0 rfl dL_law_563 ?_
          refine v_icmp_eq (tgt := 570) C dL_law_565 (by decide) (fun c47 => ?_) (fun c47 => absurd rfl c47)
          refine v_goto (tgt := 2268) C dL_law_570 (by decide) ?_
          have hlen : (oS (nPush s ([(5, cl (nI u31))], 1))).length = (oS s).length + 1 := (by show (oS s ++ [_]).length = _; rw [List.length_append]; rfl)
          refine v_lvp (lv2 := [(20, .int (nI q)), (16, .int y0), (14, .int (nI t0)), (13, .int (nI (bN (nPush s ([(5, cl (nI u31))], 1))))), (12, .int (nI (rN (nPush s ([(5, cl (nI u31))], 1))))), (11, .int (nI (oN (nPush s ([(5, cl (nI u31))], 1))))), (10, .int (nI (oS (nPush s ([(5, cl (nI u31))], 1))).length)), (9, .int (nI (N + 1))), (8, .ref (ad 6)), (7, .ref (ad 5)), (6, .ref (ad 4)), (5, .ref (ad 3)), (4, .ref (ad 2)), (3, .ref (ad 1)), (2, .ref (ad 0)), (1, .ref x), (0, .ref sb)]) [5, 9, 11, 12, 13, 14, 0, 1, 15, 16, 17, 18, 19, 20, 21, 22, 23] (by rw [hlen]; rfl) ?_
          exact v_widen (by omega) (by omega) (chk _ _ _ _ _ _ _ _ _ _ _ _ _ ⟨xi46, (wf_number hw (c_num (show u31 ≤ 1000000 by omega) (by omega))), lw46, (rs_new (F2 := (upN (upN (upN F (4 * N) 5) (4 * N + 1) u31) (4 * N + 3) 1)) (m := (oS s).length) (f := ([(5, cl (nI u31))], 1)) li.2.2.2 (by omega) (by omega) (show oS s ++ [([(5, cl (nI u31))], 1)] = _ by rw [List.take_length]) (fun j hj => (upN_n (by omega)).trans ((upN_n (by omega)).trans ((upN_n (by omega)).trans (rfl)))) (fe_new (F2 := (upN (upN (upN F (4 * N) 5) (4 * N + 1) u31) (4 * N + 3) 1)) (f := ([(5, cl (nI u31))], 1)) (Nat.le_refl _) (show 1 ≤ 6 by decide) P3 (Or.inr (Or.inl ⟨P0, by rw [P1]; omega, by show [(5, cl (nI u31))] = [(5, _)]; rw [P1, cl_nI (show u31 < 2 ^ 31 by omega)], rfl⟩)))).mono (by omega)⟩)
        · obtain ⟨-, w46⟩ := w46
          rcases w46 with ⟨ek, -⟩ | ⟨ek, -⟩
          · exact absurd ((c_num (show u31 ≤ 1000000 by omega) (by omega)).symm.trans ek) (by decide)
          · exact absurd ((c_num (show u31 ≤ 1000000 by omega) (by omega)).symm.trans ek) (by decide)
  · have c3 := (nk_ne_f (a := N) 15 (by decide) (by omega) (by decide)).mp c3
    refine v_iload C 5 rfl dL_law_330 ?_
    refine v_iconst (v := 4) C dL_law_332 (by decide) ?_
    refine v_icmp_lt (tgt := 2313) C dL_law_333 (by decide) (fun c48 => ?_) (fun c48 => absurd c48 (by decide))
    refine v_lvp [8, 9, 10, 11, 12, 13, 14, 15, 16, 17, 18, 19, 20, 21, 22] rfl ?_
    exact v_widen (by omega) (by omega) (next _ _ _ _ _ _ _ _ _ _ _ _ _ ⟨hi, hw, lx, li.2.2.2.mono (by omega)⟩)
set_option maxHeartbeats 8000000 in
set_option maxRecDepth 100000 in
theorem law_term {zp : Program} {l : Launch} {ze : Env} {zs : State} {zm : MethodId} {zargs : Array Value} {zbelow : List Frame} {zmeth : Method} {zc : Code} {G : zG} (hl : l.stackTraces = false) (C : zOK zp l ze room_1 zs zm zargs zbelow zmeth zc G cL_law 29 RL) (hNc : zNc zs) {Q : State → Prop} {sb t0 : Nat} {h : zH} {g : XGh} {x : Nat} {ad : Nat → Nat} {s : ZS} {F : Nat → Nat} {A D : Nat → Int32} {VV : Nat → Nat} {B U : Nat → Int32} {S : Nat → Nat} {T : Nat → List Tok} {lv : Nat → Nat} {N : Nat} (cs sl : Nat) (hcs : cs + 1300 ≤ 670155) (hsl : sl + 45000 ≤ 7091004) (q tm ts up : Nat) (x0 y0 : Int32)  (li : LI G h g x ad s F A D VV B U S T lv N (700 * t0)) (ht0 : t0 < 60) (hq : q < 9) (htm : tm < oN s ∨ (oN s = 0 ∧ tm = 0)) (hts : ts < rN s ∨ (rN s = 0 ∧ ts = 0)) (hup : 0 < (oS s).length → up = S ((oS s).length - 1))  (chk : ∀ (h2 : zH) (g2 : XGh) (s2 : ZS) (F2 : Nat → Nat) (A2 D2 : Nat → Int32) (VV2 : Nat → Nat) (B2 U2 : Nat → Int32) (S2 : Nat → Nat) (T2 : Nat → List Tok) (lv2 : Nat → Nat) (N2 : Nat), LI G h2 g2 x ad s2 F2 A2 D2 VV2 B2 U2 S2 T2 lv2 N2 (700 * (t0 + 1)) → V zp l ze room_1 zs zm zargs zbelow zmeth zc G 29 Q h2 (cs + 200) (sl + 20000) 2268 [(20, .int (nI q)), (16, .int y0), (14, .int (nI t0)), (13, .int (nI (bN s2))), (12, .int (nI (rN s2))), (11, .int (nI (oN s2))), (10, .int (nI (oS s2).length)), (9, .int (nI N2)), (8, .ref (ad 6)), (7, .ref (ad 5)), (6, .ref (ad 4)), (5, .ref (ad 3)), (4, .ref (ad 2)), (3, .ref (ad 1)), (2, .ref (ad 0)), (1, .ref x), (0, .ref sb)] []) (next : ∀ (h2 : zH) (g2 : XGh) (s2 : ZS) (F2 : Nat → Nat) (A2 D2 : Nat → Int32) (VV2 : Nat → Nat) (B2 U2 : Nat → Int32) (S2 : Nat → Nat) (T2 : Nat → List Tok) (lv2 : Nat → Nat) (N2 : Nat), LI G h2 g2 x ad s2 F2 A2 D2 VV2 B2 U2 S2 T2 lv2 N2 (700 * (t0 + 1)) → V zp l ze room_1 zs zm zargs zbelow zmeth zc G 29 Q h2 (cs + 1300) (sl + 45000) 2313 [(14, .int (nI t0)), (13, .int (nI (bN s2))), (12, .int (nI (rN s2))), (11, .int (nI (oN s2))), (10, .int (nI (oS s2).length)), (9, .int (nI N2)), (8, .ref (ad 6)), (7, .ref (ad 5)), (6, .ref (ad 4)), (5, .ref (ad 3)), (4, .ref (ad 2)), (3, .ref (ad 1)), (2, .ref (ad 0)), (1, .ref x), (0, .ref sb)] []) : V zp l ze room_1 zs zm zargs zbelow zmeth zc G 29 Q h (cs) (sl) 299 [(21, .int (nI up)), (20, .int (nI q)), (19, .int (nI ts)), (18, .int (nI tm)), (17, .int (nI 4)), (16, .int y0), (15, .int x0), (14, .int (nI t0)), (13, .int (nI (bN s))), (12, .int (nI (rN s))), (11, .int (nI (oN s))), (10, .int (nI (oS s).length)), (9, .int (nI N)), (8, .ref (ad 6)), (7, .ref (ad 5)), (6, .ref (ad 4)), (5, .ref (ad 3)), (4, .ref (ad 2)), (3, .ref (ad 1)), (2, .ref (ad 0)), (1, .ref x), (0, .ref sb)] [] := by
  obtain ⟨hi, hw, lx, he, hs, hV, hd, hT, hU⟩ := id li
  have hM := he.1
  have hN6 := he.2.1
  have hK8 := hw.1
  have hR2 := hT.1
  have hB2 := hU.1
  refine v_iload C 4 rfl dL_law_299 ?_
  refine v_iconst (v := 2) C dL_law_301 (by decide) ?_
  refine v_icmp_ne (tgt := 309) C dL_law_302 (by decide) (fun c1 => ?_) (fun c1 => absurd c1 (by decide))
  refine v_iload C 4 rfl dL_law_309 ?_
  refine v_iconst (v := 3) C dL_law_311 (by decide) ?_
  refine v_icmp_ne (tgt := 319) C dL_law_312 (by decide) (fun c2 => ?_) (fun c2 => absurd c2 (by decide))
  refine v_bipush (v := 6) C dL_law_319 (by decide) ?_
  refine v_istore C [(22, .int 6), (21, .int (nI up)), (20, .int (nI q)), (19, .int (nI ts)), (18, .int (nI tm)), (17, .int (nI 4)), (16, .int y0), (15, .int x0), (14, .int (nI t0)), (13, .int (nI (bN s))), (12, .int (nI (rN s))), (11, .int (nI (oN s))), (10, .int (nI (oS s).length)), (9, .int (nI N)), (8, .ref (ad 6)), (7, .ref (ad 5)), (6, .ref (ad 4)), (5, .ref (ad 3)), (4, .ref (ad 2)), (3, .ref (ad 1)), (2, .ref (ad 0)), (1, .ref x), (0, .ref sb)] rfl (by decide) dL_law_321 ?_
  refine v_iload C 13 rfl dL_law_323 ?_
  refine v_bipush (v := 15) C dL_law_325 (by decide) ?_
  refine v_icmp_ne (tgt := 344) C dL_law_327 (by decide) (fun c3 => ?_) (fun c3 => ?_)
  · have c3 := (nk_ne (a := N) 15 (by decide) (by omega) (by decide)).mp c3
    refine v_iload C 5 rfl dL_law_344 ?_
    refine v_iconst (v := 4) C dL_law_346 (by decide) ?_
    refine v_icmp_ne (tgt := 369) C dL_law_347 (by decide) (fun c4 => absurd c4 (by decide)) (fun c4 => ?_)
    refine v_iload C 11 rfl dL_law_350 ?_
    refine v_if_ne (tgt := 369) C dL_law_352 (by decide) (fun c5 => ?_) (fun c5 => ?_)
    · have c5 := (nk_ne (a := (oN s)) 0 (by decide) (by omega) (by decide)).mp c5
      refine v_iload C 12 rfl dL_law_369 ?_
      refine v_bipush (v := 8) C dL_law_371 (by decide) ?_
      refine v_icmp_eq (tgt := 392) C dL_law_373 (by decide) (fun c6 => ?_) (fun c6 => ?_)
      · have c6 := (nk_eq (a := (oS s).length) 8 (by decide) (by omega) (by decide)).mp c6
        refine v_iload C 5 rfl dL_law_392 ?_
        refine v_iconst (v := 4) C dL_law_394 (by decide) ?_
        refine v_icmp_ne (tgt := 2313) C dL_law_395 (by decide) (fun c7 => absurd c7 (by decide)) (fun c7 => ?_)
        refine v_aload_n C 21 rfl dL_law_398 rfl ?_
        refine v_iconst (v := 0) C dL_law_399 (by decide) ?_
        refine v_iload C 4 rfl dL_law_400 ?_
        refine v_iconst (v := 0) C dL_law_402 (by decide) ?_
        refine v_iconst (v := 0) C dL_law_403 (by decide) ?_
        refine v_callL (rest := []) C hNc (c_L_refused_term_3 l hl G x g s (nI tm) 0 0 h hi hw (c_trm2 hN6 (by omega) (by omega))) CL_L_151 rfl rfl (Nat.le_of_ble_eq_true rfl) ⟨Nat.le_of_ble_eq_true rfl, Nat.le_of_ble_eq_true rfl⟩ ⟨by show cs + 10 ≤ 670155; omega, by show sl + 8000 ≤ 7091004; omega⟩ dL_law_404 (fun r8 h8 w8 => ?_)
        obtain ⟨e8, rfl⟩ := w8; subst e8
        refine v_iconst (v := 3) C dL_law_407 (by decide) ?_
        refine v_icmp_eq (tgt := 2313) C dL_law_408 (by decide) (fun c9 => ?_) (fun c9 => absurd c9 (by decide))
        refine v_lvp [8, 9, 10, 11, 12, 13, 14, 15, 16, 17, 18, 19, 20, 21, 22] rfl ?_
        exact v_widen (by omega) (by omega) (next _ _ _ _ _ _ _ _ _ _ _ _ _ ⟨hi, hw, lx, li.2.2.2.mono (by omega)⟩)
      · have c6 := (nk_eq_f (a := (oS s).length) 8 (by decide) (by omega) (by decide)).mp c6
        refine v_iload C 5 rfl dL_law_376 ?_
        refine v_iconst (v := 4) C dL_law_378 (by decide) ?_
        refine v_icmp_ne (tgt := 413) C dL_law_379 (by decide) (fun c10 => absurd c10 (by decide)) (fun c10 => ?_)
        have hL6 := (hw.2.2.1.2.1 tm (by omega)).2.1
        refine v_aload C 17 rfl dL_law_382 ?_
        refine v_iload C 4 rfl dL_law_384 ?_
        refine v_iald C (lx.1.2.2.2.1) (vpin (show tm < 6 by omega) (by decide)) dL_law_386 (v_eqi (y := nI (oL s tm)) ((congrArg (fun j => nI (VV j)) (nI_clamp (show tm < 2 ^ 31 by omega))).trans (congrArg nI ((hV tm (by omega))))) ?_)
        refine v_bipush (v := 6) C dL_law_387 (by decide) ?_
        refine v_icmp_ne (tgt := 413) C dL_law_389 (by decide) (fun c11 => ?_) (fun c11 => ?_)
        · have c11 := (nk_ne (a := (oL s tm)) 6 (by decide) (by omega) (by decide)).mp c11
          refine v_iload C 5 rfl dL_law_413 ?_
          refine v_iconst (v := 2) C dL_law_415 (by decide) ?_
          refine v_icmp_ne (tgt := 431) C dL_law_416 (by decide) (fun c12 => ?_) (fun c12 => absurd c12 (by decide))
          refine v_iload C 5 rfl dL_law_431 ?_
          refine v_iconst (v := 3) C dL_law_433 (by decide) ?_
          refine v_icmp_ne (tgt := 467) C dL_law_434 (by decide) (fun c13 => ?_) (fun c13 => absurd c13 (by decide))
          refine v_iload C 4 rfl dL_law_467 ?_
          refine v_istore C [(23, .int (nI tm)), (22, .int 6), (21, .int (nI up)), (20, .int (nI q)), (19, .int (nI ts)), (18, .int (nI tm)), (17, .int (nI 4)), (16, .int y0), (15, .int x0), (14, .int (nI t0)), (13, .int (nI (bN s))), (12, .int (nI (rN s))), (11, .int (nI (oN s))), (10, .int (nI (oS s).length)), (9, .int (nI N)), (8, .ref (ad 6)), (7, .ref (ad 5)), (6, .ref (ad 4)), (5, .ref (ad 3)), (4, .ref (ad 2)), (3, .ref (ad 1)), (2, .ref (ad 0)), (1, .ref x), (0, .ref sb)] rfl (by decide) dL_law_469 ?_
          refine v_aload_n C 21 rfl dL_law_471 rfl ?_
          refine v_iconst (v := 4) C dL_law_472 (by decide) ?_
          refine v_iload C 14 rfl dL_law_473 ?_
          refine v_imul C dL_law_475 (v_eqi (nI_kml N 4 (by decide)) ?_)
          refine v_iload C 1 rfl dL_law_476 ?_
          refine v_iast C (lx.1.1) (vpin (show 4 * N < 60 by omega) (by decide)) dL_law_478 (v_nw (fun h15 eh15 => ?_))
          have lw15 := lx.p0 (i := 4 * N) (v := 6) (by omega) eh15
          have xi15 := lx.xi hi (i := 0) (by decide) eh15
          refine v_aload_n C 21 rfl dL_law_479 rfl ?_
          refine v_iconst (v := 4) C dL_law_480 (by decide) ?_
          refine v_iload C 14 rfl dL_law_481 ?_
          refine v_imul C dL_law_483 (v_eqi (nI_kml N 4 (by decide)) ?_)
          refine v_iconst (v := 1) C dL_law_484 (by decide) ?_
          refine v_iadd C dL_law_485 (v_eqi (nI_adk (4 * N) 1 (by decide)) ?_)
          refine v_iload C 0 rfl dL_law_486 ?_
          refine v_iast C (lw15.1.1) (vpin (show 4 * N + 1 < 60 by omega) (by decide)) dL_law_488 (v_nw (fun h18 eh18 => ?_))
          have lw18 := lw15.p0 (i := 4 * N + 1) (v := tm) (by omega) eh18
          have xi18 := lw15.xi xi15 (i := 0) (by decide) eh18
          refine v_aload_n C 21 rfl dL_law_489 rfl ?_
          refine v_iconst (v := 4) C dL_law_490 (by decide) ?_
          refine v_iload C 14 rfl dL_law_491 ?_
          refine v_imul C dL_law_493 (v_eqi (nI_kml N 4 (by decide)) ?_)
          refine v_iconst (v := 3) C dL_law_494 (by decide) ?_
          refine v_iadd C dL_law_495 (v_eqi (nI_adk (4 * N) 3 (by decide)) ?_)
          refine v_iload C 6 rfl dL_law_496 ?_
          refine v_iconst (v := 4) C dL_law_498 (by decide) ?_
          refine v_icmp_ne (tgt := 512) C dL_law_499 (by decide) (fun c21 => absurd c21 (by decide)) (fun c21 => ?_)
          refine v_aload C 18 rfl dL_law_502 ?_
          refine v_iload C 5 rfl dL_law_504 ?_
          refine v_iald C (lw18.1.2.2.2.1) (vpin (show tm < 6 by omega) (by decide)) dL_law_506 (v_eqi (y := nI (oL s tm)) ((congrArg (fun j => nI (VV j)) (nI_clamp (show tm < 2 ^ 31 by omega))).trans (congrArg nI ((hV tm (by omega))))) ?_)
          refine v_iconst (v := 1) C dL_law_507 (by decide) ?_
          refine v_iadd C dL_law_508 (v_eqi (nI_adk (oL s tm) 1 (by decide)) ?_)
          refine v_goto (tgt := 513) C dL_law_509 (by decide) ?_
          refine v_iast C (lw18.1.1) (vpin (show 4 * N + 3 < 60 by omega) (by decide)) dL_law_513 (v_nw (fun h23 eh23 => ?_))
          have lw23 := lw18.p0 (i := 4 * N + 3) (v := oL s tm + 1) (by omega) eh23
          have xi23 := lw18.xi xi18 (i := 0) (by decide) eh23
          refine v_aload C 15 rfl dL_law_514 ?_
          refine v_iload C 13 rfl dL_law_516 ?_
          refine v_iload C 14 rfl dL_law_518 ?_
          refine v_iast C (lw23.1.2.2.2.2.2.2) (vpin (show (oS s).length < 8 by omega) (by decide)) dL_law_520 (v_nw (fun h24 eh24 => ?_))
          have lw24 := lw23.p6 (i := (oS s).length) (v := N) (by omega) eh24
          have xi24 := lw23.xi xi23 (i := 6) (by decide) eh24
          refine v_iinc C 14 [(9, .int (nI (N + 1))), (23, .int (nI tm)), (22, .int 6), (21, .int (nI up)), (20, .int (nI q)), (19, .int (nI ts)), (18, .int (nI tm)), (17, .int (nI 4)), (16, .int y0), (15, .int x0), (14, .int (nI t0)), (13, .int (nI (bN s))), (12, .int (nI (rN s))), (11, .int (nI (oN s))), (10, .int (nI (oS s).length)), (8, .ref (ad 6)), (7, .ref (ad 5)), (6, .ref (ad 4)), (5, .ref (ad 3)), (4, .ref (ad 2)), (3, .ref (ad 1)), (2, .ref (ad 0)), (1, .ref x), (0, .ref sb)] rfl (nI_inc N 1 (by decide)) rfl (by decide) dL_law_521 ?_
          refine v_iinc C 14 [(10, .int (nI ((oS s).length + 1))), (9, .int (nI (N + 1))), (23, .int (nI tm)), (22, .int 6), (21, .int (nI up)), (20, .int (nI q)), (19, .int (nI ts)), (18, .int (nI tm)), (17, .int (nI 4)), (16, .int y0), (15, .int x0), (14, .int (nI t0)), (13, .int (nI (bN s))), (12, .int (nI (rN s))), (11, .int (nI (oN s))), (8, .ref (ad 6)), (7, .ref (ad 5)), (6, .ref (ad 4)), (5, .ref (ad 3)), (4, .ref (ad 2)), (3, .ref (ad 1)), (2, .ref (ad 0)), (1, .ref x), (0, .ref sb)] rfl (nI_inc ((oS s).length) 1 (by decide)) rfl (by decide) dL_law_524 ?_
          refine v_iload C 8 rfl dL_law_527 ?_
          refine v_iconst (v := 2) C dL_law_529 (by decide) ?_
          refine v_icmp_ne (tgt := 542) C dL_law_530 (by decide) (fun c27 => ?_) (fun c27 => absurd c27 (by decide))
          refine v_iload C 8 rfl dL_law_542 ?_
          refine v_iconst (v := 3) C dL_law_544 (by decide) ?_
          refine v_icmp_ne (tgt := 557) C dL_law_545 (by decide) (fun c28 => ?_) (fun c28 => absurd c28 (by decide))
          refine v_aload_n C 22 rfl dL_law_557 rfl ?_
          refine v_iload C 2 rfl dL_law_558 ?_
          refine v_callVX (rest := []) C (c_X4_term l hl G x g s (nI tm) h24 xi24 hw) K_L_91 xi24.1.1.1 rfl rfl (Nat.le_of_ble_eq_true rfl) ⟨Nat.le_of_ble_eq_true rfl, Nat.le_of_ble_eq_true rfl⟩ ⟨by show cs + 10 ≤ 670155; omega, by show sl + 8000 ≤ 7091004; omega⟩ dL_law_560 (fun r29 h29 w29 => ?_) (fun E29 h29 w29 => ?_)
          · obtain ⟨-, er29, g29, xi29, fz29⟩ := w29
            have lw29 := lw24.fr fz29
            have fr29 := fz29
            replace er29 := er29.trans (rfl)
            subst er29
            have P0 : (upN (upN (upN F (4 * N) 6) (4 * N + 1) tm) (4 * N + 3) (oL s tm + 1)) (4 * N) = 6 := ((upN_n (by omega)).trans ((upN_n (by omega)).trans (upN_s)))
            have P1 : (upN (upN (upN F (4 * N) 6) (4 * N + 1) tm) (4 * N + 3) (oL s tm + 1)) (4 * N + 1) = tm := ((upN_n (by omega)).trans (upN_s))
            have P3 : (upN (upN (upN F (4 * N) 6) (4 * N + 1) tm) (4 * N + 3) (oL s tm + 1)) (4 * N + 3) = oL s tm + 1 := (upN_s)
            refine v_iload C 0 rfl dL_law_563 ?_
            refine v_icmp_eq (tgt := 570) C dL_law_565 (by decide) (fun c30 => ?_) (fun c30 => absurd rfl c30)
            refine v_goto (tgt := 2268) C dL_law_570 (by decide) ?_
            have hlen : (oS (nPush s ([(6, cl (nI tm))], oL s (cl (nI tm)) + 1))).length = (oS s).length + 1 := (by show (oS s ++ [_]).length = _; rw [List.length_append]; rfl)
            refine v_lvp (lv2 := [(20, .int (nI q)), (16, .int y0), (14, .int (nI t0)), (13, .int (nI (bN (nPush s ([(6, cl (nI tm))], oL s (cl (nI tm)) + 1))))), (12, .int (nI (rN (nPush s ([(6, cl (nI tm))], oL s (cl (nI tm)) + 1))))), (11, .int (nI (oN (nPush s ([(6, cl (nI tm))], oL s (cl (nI tm)) + 1))))), (10, .int (nI (oS (nPush s ([(6, cl (nI tm))], oL s (cl (nI tm)) + 1))).length)), (9, .int (nI (N + 1))), (8, .ref (ad 6)), (7, .ref (ad 5)), (6, .ref (ad 4)), (5, .ref (ad 3)), (4, .ref (ad 2)), (3, .ref (ad 1)), (2, .ref (ad 0)), (1, .ref x), (0, .ref sb)]) [5, 9, 11, 12, 13, 14, 0, 1, 15, 16, 17, 18, 19, 20, 21, 22, 23] (by rw [hlen]; rfl) ?_
            exact v_widen (by omega) (by omega) (chk _ _ _ _ _ _ _ _ _ _ _ _ _ ⟨xi29, (wf_term hw (c_trm hN6 (by omega) (by omega) (by omega))), lw29, (rs_new (F2 := (upN (upN (upN F (4 * N) 6) (4 * N + 1) tm) (4 * N + 3) (oL s tm + 1))) (m := (oS s).length) (f := ([(6, cl (nI tm))], oL s (cl (nI tm)) + 1)) li.2.2.2 (by omega) (by omega) (show oS s ++ [([(6, cl (nI tm))], oL s (cl (nI tm)) + 1)] = _ by rw [List.take_length]) (fun j hj => (upN_n (by omega)).trans ((upN_n (by omega)).trans ((upN_n (by omega)).trans (rfl)))) (fe_new (F2 := (upN (upN (upN F (4 * N) 6) (4 * N + 1) tm) (4 * N + 3) (oL s tm + 1))) (f := ([(6, cl (nI tm))], oL s (cl (nI tm)) + 1)) (Nat.le_add_left _ _) (by show oL s (cl (nI tm)) + 1 ≤ 6; rw [cl_nI (show tm < 2 ^ 31 by omega)]; omega) (P3.trans (by show _ = oL s (cl (nI tm)) + 1; rw [cl_nI (show tm < 2 ^ 31 by omega)])) (Or.inr (Or.inr (Or.inl ⟨P0, by rw [P1]; omega, by show [(6, cl (nI tm))] = [(6, _)]; rw [P1, cl_nI (show tm < 2 ^ 31 by omega)], by show oL s (cl (nI tm)) + 1 = _; rw [P1, cl_nI (show tm < 2 ^ 31 by omega)]⟩))))).mono (by omega)⟩)
          · obtain ⟨-, w29⟩ := w29
            rcases w29 with ⟨ek, -⟩ | ⟨ek, -⟩
            · exact absurd ((c_trm hN6 (by omega) (by omega) (by omega)).symm.trans ek) (by decide)
            · exact absurd ((c_trm hN6 (by omega) (by omega) (by omega)).symm.trans ek) (by decide)
        · have c11 := (nk_ne_f (a := (oL s tm)) 6 (by decide) (by omega) (by decide)).mp c11
          refine v_iload C 5 rfl dL_law_392 ?_
          refine v_iconst (v := 4) C dL_law_394 (by decide) ?_
          refine v_icmp_ne (tgt := 2313) C dL_law_395 (by decide) (fun c31 => absurd c31 (by decide)) (fun c31 => ?_)
          refine v_aload_n C 21 rfl dL_law_398 rfl ?_
          refine v_iconst (v := 0) C dL_law_399 (by decide) ?_
          refine v_iload C 4 rfl dL_law_400 ?_
          refine v_iconst (v := 0) C dL_law_402 (by decide) ?_
          refine v_iconst (v := 0) C dL_law_403 (by decide) ?_
          refine v_callL (rest := []) C hNc (c_L_refused_term_3 l hl G x g s (nI tm) 0 0 h hi hw (c_trm2 hN6 (by omega) (by omega))) CL_L_151 rfl rfl (Nat.le_of_ble_eq_true rfl) ⟨Nat.le_of_ble_eq_true rfl, Nat.le_of_ble_eq_true rfl⟩ ⟨by show cs + 10 ≤ 670155; omega, by show sl + 8000 ≤ 7091004; omega⟩ dL_law_404 (fun r32 h32 w32 => ?_)
          obtain ⟨e32, rfl⟩ := w32; subst e32
          refine v_iconst (v := 3) C dL_law_407 (by decide) ?_
          refine v_icmp_eq (tgt := 2313) C dL_law_408 (by decide) (fun c33 => ?_) (fun c33 => absurd c33 (by decide))
          refine v_lvp [8, 9, 10, 11, 12, 13, 14, 15, 16, 17, 18, 19, 20, 21, 22] rfl ?_
          exact v_widen (by omega) (by omega) (next _ _ _ _ _ _ _ _ _ _ _ _ _ ⟨hi, hw, lx, li.2.2.2.mono (by omega)⟩)
    · have c5 := (nk_ne_f (a := (oN s)) 0 (by decide) (by omega) (by decide)).mp c5
      refine v_aload_n C 21 rfl dL_law_355 rfl ?_
      refine v_iconst (v := 0) C dL_law_356 (by decide) ?_
      refine v_iconst (v := 0) C dL_law_357 (by decide) ?_
      refine v_iconst (v := 0) C dL_law_358 (by decide) ?_
      refine v_iconst (v := 0) C dL_law_359 (by decide) ?_
      refine v_callL (rest := []) C hNc (c_L_refused_term_1 l hl G x g s 0 0 0 h hi hw (c_trm1 (by omega))) CL_L_151 rfl rfl (Nat.le_of_ble_eq_true rfl) ⟨Nat.le_of_ble_eq_true rfl, Nat.le_of_ble_eq_true rfl⟩ ⟨by show cs + 10 ≤ 670155; omega, by show sl + 8000 ≤ 7091004; omega⟩ dL_law_360 (fun r34 h34 w34 => ?_)
      obtain ⟨e34, rfl⟩ := w34; subst e34
      refine v_iconst (v := 1) C dL_law_363 (by decide) ?_
      refine v_icmp_eq (tgt := 2313) C dL_law_364 (by decide) (fun c35 => ?_) (fun c35 => absurd c35 (by decide))
      refine v_lvp [8, 9, 10, 11, 12, 13, 14, 15, 16, 17, 18, 19, 20, 21, 22] rfl ?_
      exact v_widen (by omega) (by omega) (next _ _ _ _ _ _ _ _ _ _ _ _ _ ⟨hi, hw, lx, li.2.2.2.mono (by omega)⟩)
  · have c3 := (nk_ne_f (a := N) 15 (by decide) (by omega) (by decide)).mp c3
    refine v_iload C 5 rfl dL_law_330 ?_
    refine v_iconst (v := 4) C dL_law_332 (by decide) ?_
    refine v_icmp_lt (tgt := 2313) C dL_law_333 (by decide) (fun c36 => absurd c36 (by decide)) (fun c36 => ?_)
    refine v_iload C 11 rfl dL_law_336 ?_
    refine v_if_le (tgt := 344) C dL_law_338 (by decide) (fun c37 => ?_) (fun c37 => ?_)
    · have c37 := (nk_le (a := (oN s)) 0 (by decide) (by omega) (by decide)).mp c37
      refine v_iload C 5 rfl dL_law_344 ?_
      refine v_iconst (v := 4) C dL_law_346 (by decide) ?_
      refine v_icmp_ne (tgt := 369) C dL_law_347 (by decide) (fun c38 => absurd c38 (by decide)) (fun c38 => ?_)
      refine v_iload C 11 rfl dL_law_350 ?_
      refine v_if_ne (tgt := 369) C dL_law_352 (by decide) (fun c39 => absurd ((nk_ne (a := oN s) 0 (by decide) (by omega) (by decide)).mp c39) (by omega)) (fun c39 => ?_)
      have c39 := (nk_ne_f (a := (oN s)) 0 (by decide) (by omega) (by decide)).mp c39
      refine v_aload_n C 21 rfl dL_law_355 rfl ?_
      refine v_iconst (v := 0) C dL_law_356 (by decide) ?_
      refine v_iconst (v := 0) C dL_law_357 (by decide) ?_
      refine v_iconst (v := 0) C dL_law_358 (by decide) ?_
      refine v_iconst (v := 0) C dL_law_359 (by decide) ?_
      refine v_callL (rest := []) C hNc (c_L_refused_term_1 l hl G x g s 0 0 0 h hi hw (c_trm1 (by omega))) CL_L_151 rfl rfl (Nat.le_of_ble_eq_true rfl) ⟨Nat.le_of_ble_eq_true rfl, Nat.le_of_ble_eq_true rfl⟩ ⟨by show cs + 10 ≤ 670155; omega, by show sl + 8000 ≤ 7091004; omega⟩ dL_law_360 (fun r40 h40 w40 => ?_)
      obtain ⟨e40, rfl⟩ := w40; subst e40
      refine v_iconst (v := 1) C dL_law_363 (by decide) ?_
      refine v_icmp_eq (tgt := 2313) C dL_law_364 (by decide) (fun c41 => ?_) (fun c41 => absurd c41 (by decide))
      refine v_lvp [8, 9, 10, 11, 12, 13, 14, 15, 16, 17, 18, 19, 20, 21, 22] rfl ?_
      exact v_widen (by omega) (by omega) (next _ _ _ _ _ _ _ _ _ _ _ _ _ ⟨hi, hw, lx, li.2.2.2.mono (by omega)⟩)
    · have c37 := (nk_le_f (a := (oN s)) 0 (by decide) (by omega) (by decide)).mp c37
      refine v_goto (tgt := 2313) C dL_law_341 (by decide) ?_
      refine v_lvp [8, 9, 10, 11, 12, 13, 14, 15, 16, 17, 18, 19, 20, 21, 22] rfl ?_
      exact v_widen (by omega) (by omega) (next _ _ _ _ _ _ _ _ _ _ _ _ _ ⟨hi, hw, lx, li.2.2.2.mono (by omega)⟩)

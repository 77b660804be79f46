set_option maxHeartbeats 8000000 in
set_option maxRecDepth 100000 in
theorem law_check {zp : Program} {l : Launch} {ze : Env} {zs : State} {zm : MethodId} {zargs : Array Value} {zbelow : List Frame} {zmeth : Method} {zc : Code} {G : zG} (hl : l.stackTraces = false) (C : zOK zp l ze room_1 zs zm zargs zbelow zmeth zc G cL_law 29 RL) (hNc : zNc zs) {Q : State → Prop} {sb t0 : Nat} {h : zH} {g : XGh} {x : Nat} {ad : Nat → Nat} {s : ZS} {F : Nat → Nat} {A D : Nat → Int32} {VV : Nat → Nat} {B U : Nat → Int32} {S : Nat → Nat} {T : Nat → List Tok} {lv : Nat → Nat} {N : Nat} (cs sl : Nat) (hcs : cs + 1300 ≤ 670155) (hsl : sl + 45000 ≤ 7091004) (q : Nat) (y0 : Int32) (li : LI G h g x ad s F A D VV B U S T lv N (700 * (t0 + 1))) (ht0 : t0 < 60) (hq : q < 9)  (next : ∀ (h2 : zH) (g2 : XGh) (s2 : ZS) (F2 : Nat → Nat) (A2 D2 : Nat → Int32) (VV2 : Nat → Nat) (B2 U2 : Nat → Int32) (S2 : Nat → Nat) (T2 : Nat → List Tok) (lv2 : Nat → Nat) (N2 : Nat), LI G h2 g2 x ad s2 F2 A2 D2 VV2 B2 U2 S2 T2 lv2 N2 (700 * (t0 + 1)) → V zp l ze room_1 zs zm zargs zbelow zmeth zc G 29 Q h2 (cs + 1300) (sl + 45000) 2313 [(14, .int (nI t0)), (13, .int (nI (bN s2))), (12, .int (nI (rN s2))), (11, .int (nI (oN s2))), (10, .int (nI (oS s2).length)), (9, .int (nI N2)), (8, .ref (ad 6)), (7, .ref (ad 5)), (6, .ref (ad 4)), (5, .ref (ad 3)), (4, .ref (ad 2)), (3, .ref (ad 1)), (2, .ref (ad 0)), (1, .ref x), (0, .ref sb)] []) : V zp l ze room_1 zs zm zargs zbelow zmeth zc G 29 Q h (cs + 200) (sl + 20000) 2268 [(20, .int (nI q)), (16, .int y0), (14, .int (nI t0)), (13, .int (nI (bN s))), (12, .int (nI (rN s))), (11, .int (nI (oN s))), (10, .int (nI (oS s).length)), (9, .int (nI N)), (8, .ref (ad 6)), (7, .ref (ad 5)), (6, .ref (ad 4)), (5, .ref (ad 3)), (4, .ref (ad 2)), (3, .ref (ad 1)), (2, .ref (ad 0)), (1, .ref x), (0, .ref sb)] [] := by
  obtain ⟨hi, hw, lx, he, hs, hV, hd, hT, hU⟩ := id li
  have hM := he.1
  have hN6 := he.2.1
  have hK8 := hw.1
  have hR2 := hT.1
  have hB2 := hU.1
  refine v_aload_n C 15 rfl dL_law_2268 rfl ?_
  refine v_iload C 5 rfl dL_law_2269 ?_
  refine v_aload C 11 rfl dL_law_2271 ?_
  refine v_aload_n C 14 rfl dL_law_2273 rfl ?_
  refine v_aload_n C 13 rfl dL_law_2274 rfl ?_
  refine v_aload C 12 rfl dL_law_2275 ?_
  refine v_iload C 0 rfl dL_law_2277 ?_
  refine v_iload C 1 rfl dL_law_2279 ?_
  refine v_bipush (v := 12) C dL_law_2281 (by decide) ?_
  refine v_ishr C dL_law_2283 (v_topi (fun i1 e1 => ?_))
  refine v_sipush (v := 300) C dL_law_2284 (by decide) ?_
  refine v_callS (rest := [.int (nI q), .ref (ad 2), .ref (ad 1), .ref (ad 0), .ref (ad 3), .int (nI (oN s)), .ref x]) C (c_L_low l hl G i1 300 h (by decide) (by omega)) S_L_178 rfl rfl (Nat.le_of_ble_eq_true rfl) ⟨Nat.le_of_ble_eq_true rfl, Nat.le_of_ble_eq_true rfl⟩ ⟨by show cs + 200 + 0 ≤ 670155; omega, by show sl + 20000 + 0 ≤ 7091004; omega⟩ dL_law_2287 (fun i2 h2 q2 => ?_)
  obtain ⟨e2, rfl⟩ := q2
  obtain ⟨u2, hu2, eu2⟩ : ∃ u, u < 300 ∧ lw i1 300 = u := ⟨_, lw_lt (by decide), rfl⟩
  rw [eu2] at e2; subst e2
  refine v_callP (rest := []) C (zNc_last G) hNc (c_L_terms l hl G q u2 x N ad g s F A D VV B U S T lv h hi hw lx he hV (by omega) (by omega)) S_L_213 rfl rfl (Nat.le_of_ble_eq_true rfl) ⟨Nat.le_of_ble_eq_true rfl, Nat.le_of_ble_eq_true rfl⟩ ⟨by show cs + 200 + 0 + 400 ≤ 670155; omega, by show sl + 20000 + 0 + 8000 ≤ 7091004; omega⟩ dL_law_2290 (fun r3 h3 w3 => ?_)
  obtain ⟨er3, g3, xi3, fz3⟩ := w3
  subst er3
  have lw3 := lx.fr fz3
  refine v_if_eq (tgt := 2311) C dL_law_2293 (by decide) (fun c4 => absurd c4 (by decide)) (fun c4 => ?_)
  refine v_aload_n C 15 rfl dL_law_2296 rfl ?_
  refine v_aload C 10 rfl dL_law_2297 ?_
  refine v_iload C 4 rfl dL_law_2299 ?_
  refine v_aload_n C 14 rfl dL_law_2301 rfl ?_
  refine v_aload_n C 13 rfl dL_law_2302 rfl ?_
  refine v_aload C 12 rfl dL_law_2303 ?_
  refine v_callP (rest := []) C (zNc_last G) hNc (c_L_tests l hl G x N ad g3 s F A D VV B U S T lv h3 xi3 hw lw3 he hT) S_L_216 rfl rfl (Nat.le_of_ble_eq_true rfl) ⟨Nat.le_of_ble_eq_true rfl, Nat.le_of_ble_eq_true rfl⟩ ⟨by show cs + 200 + 0 + 400 + 600 ≤ 670155; omega, by show sl + 20000 + 0 + 8000 + 12000 ≤ 7091004; omega⟩ dL_law_2305 (fun r5 h5 w5 => ?_)
  obtain ⟨er5, g5, xi5, fz5⟩ := w5
  subst er5
  have lw5 := lw3.fr fz5
  refine v_if_ne (tgt := 2313) C dL_law_2308 (by decide) (fun c6 => ?_) (fun c6 => absurd c6 (by decide))
  refine v_lvp [2, 3, 4, 5, 6, 7, 8, 9, 10, 11, 12, 13, 14, 15, 16] rfl ?_
  exact v_widen (by omega) (by omega) (next _ _ _ _ _ _ _ _ _ _ _ _ _ ⟨xi5, hw, lw5, li.2.2.2⟩)

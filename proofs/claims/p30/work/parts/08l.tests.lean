section
variable {s : ZS} {k q : Nat}
theorem k_isRQ (h : k < rN s) (hN : rN s ≤ 10) (hq : q < 20) : kIsRQ s (nI k) (nI q) = 0 := if_pos ⟨(inN_nI (by omega) (by omega)).mpr h, (inN_nI (by omega) (by decide)).mpr hq⟩
theorem k_room0 (h : k < rN s) (hN : rN s ≤ 10) (hq : q < 20) (h1 : ¬ lmA (rL s k) q = -1) (h2 : 0 < rmBot s k q) : kRoom s (nI k) (nI q) = 0 := by
  unfold kRoom
  rw [if_pos ⟨(inN_nI (by omega) (by omega)).mpr h, (inN_nI (by omega) (by decide)).mpr hq⟩, cl_nI (show k < 2 ^ 31 by omega), cl_nI (show q < 2 ^ 31 by omega)]
  exact if_neg (fun z => z.elim h1 (fun y => absurd h2 (Int64.not_lt.mpr y)))
theorem k_room2 (h : k < rN s) (hN : rN s ≤ 10) (hq : q < 20) (h1 : lmA (rL s k) q = -1 ∨ ¬ 0 < rmBot s k q) : kRoom s (nI k) (nI q) = 2 := by
  unfold kRoom
  rw [if_pos ⟨(inN_nI (by omega) (by omega)).mpr h, (inN_nI (by omega) (by decide)).mpr hq⟩, cl_nI (show k < 2 ^ 31 by omega), cl_nI (show q < 2 ^ 31 by omega)]
  exact if_pos (h1.imp id (fun y => Int64.not_lt.mp y))
theorem rW_neg (hrW : rW s k = -1 ∨ inN (rW s k) 6) (h : rW s k < 0) : rW s k = -1 := hrW.elim id (fun z => absurd h (Int32.not_lt.mpr (inN_iff.mp z).1))
theorem rW_pos (hrW : rW s k = -1 ∨ inN (rW s k) 6) (h : ¬ rW s k < 0) : ∃ w, w < 6 ∧ rW s k = nI w := hrW.elim (fun z => absurd (by rw [z]; decide) h) (fun z => z.nat (by decide))
theorem dz_yes {w : Nat} (hw : w < 6) (e : rW s k = nI w) (h : ¬ rE s k ≤ oA s w q) : dozes s k q := by
  refine ⟨fun z => ?_, by rw [e, cl_nI (show w < 2 ^ 31 by omega)]; exact Int32.not_le.mp h⟩
  rw [e] at z
  have := congrArg Int32.toInt z
  rw [nI_toInt (show w < 2 ^ 31 by omega), show ((-1 : Int32)).toInt = -1 from rfl] at this
  omega
theorem dz_no {w : Nat} (hw : w < 6) (e : rW s k = nI w) (h : rE s k ≤ oA s w q) : ¬ dozes s k q := fun z => by
  have := z.2
  rw [e, cl_nI (show w < 2 ^ 31 by omega)] at this
  exact absurd this (Int32.not_lt.mpr h)
theorem cu_0 (h : wth (rC s k q) 0 1000000) (hc : rC s k q ≤ 0) (h1 : ¬ kept s k q 0) : ¬ kept s k q (rC s k q).toInt64 := by
  have a := (wth_iff.mp h).1
  have e : rC s k q = 0 := Int32.toInt_inj.mp (by rw [i32_le] at a hc; omega)
  rw [e]; exact h1
theorem b01_1 {b : Bool} : b01 b = 1 ↔ b = true := by cases b <;> decide
end
set_option maxHeartbeats 4000000 in
set_option maxRecDepth 100000 in
theorem c_L_tests (l : Launch) (hl : l.stackTraces = false) (G : zG) (x N : Nat) (ad : Nat → Nat) (g : XGh) (s : ZS) (F : Nat → Nat) (A D : Nat → Int32) (VV : Nat → Nat) (B U : Nat → Int32) (S : Nat → Nat) (T : Nat → List Tok) (lv : Nat → Nat) (h : zH) (hi : XI G h g x s) (hw : WFs s) (lw : LW G h g ad F A D VV B U S) (he : EV s F A D T lv N) (hT : ET s B) : zMetP zNc eI l yL_tests cL_tests 18 (some .boolean) 19 600 12000 G [.ref x, .ref (ad 4), .int (nI (rN s)), .ref (ad 0), .ref (ad 1), .ref (ad 2)] h (fun r h2 => r = 1 ∧ ∃ g2, XI G h2 g2 x s ∧ XFr g g2 h h2) := by
  refine con_ofP hl RL rfl (by decide +kernel) [(0, .ref x), (1, .ref (ad 4)), (2, .int (nI (rN s))), (3, .ref (ad 0)), (4, .ref (ad 1)), (5, .ref (ad 2))] rfl (Nat.le_of_ble_eq_true rfl) ?_
  intro zp ze zs zm zargs zbelow zmeth zc C hr hin hNc Q hQ
  have hN6 := he.2.1
  have hM := he.1
  have hR2 := hT.1
  have fr0 : XFr g g h h := fun b e hb hr => ⟨hb, hr⟩
  refine v_iconst (v := 0) C dL_tests_0 (by decide) ?_
  refine v_istore C [(6, .int 0), (0, .ref x), (1, .ref (ad 4)), (2, .int (nI (rN s))), (3, .ref (ad 0)), (4, .ref (ad 1)), (5, .ref (ad 2))] rfl (by decide) dL_tests_1 ?_
  refine v_iconst (v := 0) C dL_tests_3 (by decide) ?_
  refine v_istore C [(7, .int 0), (6, .int 0), (0, .ref x), (1, .ref (ad 4)), (2, .int (nI (rN s))), (3, .ref (ad 0)), (4, .ref (ad 1)), (5, .ref (ad 2))] rfl (by decide) dL_tests_4 ?_
  have L1 : ∀ (d : Nat) (k : Nat) (g2 : XGh) (h2 : zH), (k ≤ rN s) → (XI G h2 g2 x s) → (XFr g g2 h h2) → (LW G h2 g2 ad F A D VV B U S) → (rN s < k + d) → V zp l ze (rmm 19 600 12000) zs zm zargs zbelow zmeth zc G 18 Q h2 (180 * k) (3600 * k) 6 [(7, .int (nI k)), (6, .int (nI (bk s 0 9 k))), (0, .ref x), (1, .ref (ad 4)), (2, .int (nI (rN s))), (3, .ref (ad 0)), (4, .ref (ad 1)), (5, .ref (ad 2))] [] := by
    intro d
    induction d with
    | zero =>
      intro k g2 h2 hk xi2 fr2 lw2 hd
      exact absurd hd (by omega)
    | succ d ih1 =>
      intro k g2 h2 hk xi2 fr2 lw2 hd
      refine v_iload C 0 rfl dL_tests_6 ?_
      refine v_iload_n C 4 rfl dL_tests_8 rfl ?_
      refine v_icmp_ge (tgt := 312) C dL_tests_9 (by decide) (fun c2 => ?_) (fun c2 => ?_)
      · have c2 := (nn_ge (a := k) (b := (rN s)) (by omega) (by omega)).mp c2
        refine v_iconst (v := 0) C dL_tests_312 (by decide) ?_
        refine v_istore C [(7, .int 0), (6, .int (nI (bk s 0 9 k))), (0, .ref x), (1, .ref (ad 4)), (2, .int (nI (rN s))), (3, .ref (ad 0)), (4, .ref (ad 1)), (5, .ref (ad 2))] rfl (by decide) dL_tests_313 ?_
        refine v_iconst (v := 0) C dL_tests_315 (by decide) ?_
        refine v_istore C [(8, .int 0), (7, .int 0), (6, .int (nI (bk s 0 9 k))), (0, .ref x), (1, .ref (ad 4)), (2, .int (nI (rN s))), (3, .ref (ad 0)), (4, .ref (ad 1)), (5, .ref (ad 2))] rfl (by decide) dL_tests_316 ?_
        have L3 : ∀ (d : Nat) (m : Nat) (g2 : XGh) (h2 : zH), (m ≤ rN s) → (XI G h2 g2 x s) → (XFr g g2 h h2) → (LW G h2 g2 ad F A D VV B U S) → (rN s < m + d) → V zp l ze (rmm 19 600 12000) zs zm zargs zbelow zmeth zc G 18 Q h2 (360 + 110 * m) (7200 + 2200 * m) 318 [(8, .int (nI m)), (7, .int (nI (bk s 9 11 m))), (6, .int (nI (bk s 0 9 k))), (0, .ref x), (1, .ref (ad 4)), (2, .int (nI (rN s))), (3, .ref (ad 0)), (4, .ref (ad 1)), (5, .ref (ad 2))] [] := by
          intro d
          induction d with
          | zero =>
            intro m g2 h2 hm xi2 fr2 lw2 hd
            exact absurd hd (by omega)
          | succ d ih3 =>
            intro m g2 h2 hm xi2 fr2 lw2 hd
            refine v_iload C 0 rfl dL_tests_318 ?_
            refine v_iload_n C 5 rfl dL_tests_320 rfl ?_
            refine v_icmp_ge (tgt := 369) C dL_tests_321 (by decide) (fun c4 => ?_) (fun c4 => ?_)
            · have c4 := (nn_ge (a := m) (b := (rN s)) (by omega) (by omega)).mp c4
              refine v_aload_n C 3 rfl dL_tests_369 rfl ?_
              refine v_callV (rest := []) C (c_X4_broken l hl G x g2 s h2 xi2 hw) K_L_155 xi2.1.1.1 rfl rfl (Nat.le_of_ble_eq_true rfl) ⟨Nat.le_of_ble_eq_true rfl, Nat.le_of_ble_eq_true rfl⟩ ⟨by show 360 + 110 * m + 0 ≤ 600; omega, by show 7200 + 2200 * m + 0 ≤ 12000; omega⟩ dL_tests_370 (fun r5 h5 w5 => ?_)
              obtain ⟨e5, rfl⟩ := w5; subst e5
              refine v_iload C 2 rfl dL_tests_373 ?_
              refine v_iload C 1 rfl dL_tests_375 ?_
              refine v_iadd C dL_tests_377 (v_eqi (nI_add (bk s 0 9 k) (bk s 9 11 m)) ?_)
              refine v_icmp_ne (tgt := 385) C dL_tests_378 (by decide) (fun c7 => absurd (congrArg nI (show vBroken s (rN s) = bk s 0 9 k + bk s 9 11 m by rw [show k = rN s by omega, show m = rN s by omega]; exact bk_all s (rN s))) c7) (fun c7 => ?_)
              refine v_iconst (v := 1) C dL_tests_381 (by decide) ?_
              refine v_goto (tgt := 386) C dL_tests_382 (by decide) ?_
              exact v_iret C hQ hr rfl (by show 360 + 110 * m + 0 ≤ 600; omega) (by show 7200 + 2200 * m + 0 ≤ 12000; omega) dL_tests_386 ⟨rfl, g2, xi2, fr2⟩
            · have c4 := (nn_ge_f (a := m) (b := (rN s)) (by omega) (by omega)).mp c4
              refine v_bipush (v := 9) C dL_tests_324 (by decide) ?_
              refine v_istore C [(9, .int 9), (8, .int (nI m)), (7, .int (nI (bk s 9 11 m))), (6, .int (nI (bk s 0 9 k))), (0, .ref x), (1, .ref (ad 4)), (2, .int (nI (rN s))), (3, .ref (ad 0)), (4, .ref (ad 1)), (5, .ref (ad 2))] rfl (by decide) dL_tests_326 ?_
              have L8 : ∀ (d : Nat) (u : Nat) (g2 : XGh) (h2 : zH), (u ≤ 11) → (XI G h2 g2 x s) → (XFr g g2 h h2) → (LW G h2 g2 ad F A D VV B U S) → (11 < u + d) → V zp l ze (rmm 19 600 12000) zs zm zargs zbelow zmeth zc G 18 Q h2 (360 + 110 * m + 10 * u) (7200 + 2200 * m + 200 * u) 328 [(9, .int (nI (9 + u))), (8, .int (nI m)), (7, .int (nI (bk s 9 11 m + cnt (fun q => isB s m (9 + q)) u))), (6, .int (nI (bk s 0 9 k))), (0, .ref x), (1, .ref (ad 4)), (2, .int (nI (rN s))), (3, .ref (ad 0)), (4, .ref (ad 1)), (5, .ref (ad 2))] [] := by
                intro d
                induction d with
                | zero =>
                  intro u g2 h2 hu xi2 fr2 lw2 hd
                  exact absurd hd (by omega)
                | succ d ih8 =>
                  intro u g2 h2 hu xi2 fr2 lw2 hd
                  refine v_iload C 0 rfl dL_tests_328 ?_
                  refine v_bipush (v := 20) C dL_tests_330 (by decide) ?_
                  refine v_icmp_ge (tgt := 363) C dL_tests_332 (by decide) (fun c9 => ?_) (fun c9 => ?_)
                  · have c9 := (nk_ge (a := (9 + u)) 20 (by decide) (by omega) (by decide)).mp c9
                    refine v_iinc C 1 [(8, .int (nI (m + 1))), (9, .int (nI (9 + u))), (7, .int (nI (bk s 9 11 m + cnt (fun q => isB s m (9 + q)) u))), (6, .int (nI (bk s 0 9 k))), (0, .ref x), (1, .ref (ad 4)), (2, .int (nI (rN s))), (3, .ref (ad 0)), (4, .ref (ad 1)), (5, .ref (ad 2))] rfl (nI_inc m 1 (by decide)) rfl (by decide) dL_tests_363 ?_
                    refine v_goto (tgt := 318) C dL_tests_366 (by decide) ?_
                    refine v_lvp [0, 2, 3, 4, 5, 6, 7, 8, 9] rfl ?_
                    obtain rfl : u = 11 := by omega
                    refine v_widen (c2 := 360 + 110 * (m + 1)) (s2 := 7200 + 2200 * (m + 1)) (by omega) (by omega) ?_
                    exact ih3 (m + 1) g2 h2 (by omega) xi2 fr2 lw2 (by omega)
                  · have c9 := (nk_ge_f (a := (9 + u)) 20 (by decide) (by omega) (by decide)).mp c9
                    have hv4 := vState_le s m (9 + u)
                    refine v_iload C 2 rfl dL_tests_335 ?_
                    refine v_aload_n C 4 rfl dL_tests_337 rfl ?_
                    refine v_iload C 1 rfl dL_tests_338 ?_
                    refine v_iload C 0 rfl dL_tests_340 ?_
                    refine v_callVX (rest := [.int (nI (bk s 9 11 m + cnt (fun q => isB s m (9 + q)) u))]) C (c_X4_state l hl G x g2 s (nI m) (nI (9 + u)) h2 xi2 hw) K_L_148 xi2.1.1.1 rfl rfl (Nat.le_of_ble_eq_true rfl) ⟨Nat.le_of_ble_eq_true rfl, Nat.le_of_ble_eq_true rfl⟩ ⟨by show 360 + 110 * m + 10 * u + 10 ≤ 600; omega, by show 7200 + 2200 * m + 200 * u + 200 ≤ 12000; omega⟩ dL_tests_342 (fun r11 h11 w11 => ?_) (fun E11 h11 w11 => ?_)
                    · obtain ⟨-, er11, g11, xi11, fz11⟩ := w11
                      have lw11 := lw2.fr fz11
                      have fr11 := fr2.trans fz11
                      replace er11 := er11.trans (by rw [cl_nI (show m < 2 ^ 31 by omega), cl_nI (show 9 + u < 2 ^ 31 by omega)])
                      subst er11
                      refine v_iconst (v := 4) C dL_tests_345 (by decide) ?_
                      refine v_icmp_ne (tgt := 353) C dL_tests_346 (by decide) (fun c12 => ?_) (fun c12 => ?_)
                      · have c12 := (nk_ne (a := (vState s m (9 + u))) 4 (by decide) (by omega) (by decide)).mp c12
                        refine v_iconst (v := 0) C dL_tests_353 (by decide) ?_
                        refine v_iadd C dL_tests_354 (v_eqi (y := (nI (bk s 9 11 m + cnt (fun q => isB s m (9 + q)) (u + 1)))) ((nI_adk _ 0 (by decide)).trans (congrArg nI (show _ = bk s 9 11 m + cnt (fun q => isB s m (9 + q)) (u + 1) by rw [cnt_f (by skip; exact fun z => c12 (of_decide_eq_true z))]; rfl))) ?_)
                        refine v_istore C [(7, .int (nI (bk s 9 11 m + cnt (fun q => isB s m (9 + q)) (u + 1)))), (9, .int (nI (9 + u))), (8, .int (nI m)), (6, .int (nI (bk s 0 9 k))), (0, .ref x), (1, .ref (ad 4)), (2, .int (nI (rN s))), (3, .ref (ad 0)), (4, .ref (ad 1)), (5, .ref (ad 2))] rfl (by decide) dL_tests_355 ?_
                        refine v_iinc C 1 [(9, .int (nI ((9 + u) + 1))), (7, .int (nI (bk s 9 11 m + cnt (fun q => isB s m (9 + q)) (u + 1)))), (8, .int (nI m)), (6, .int (nI (bk s 0 9 k))), (0, .ref x), (1, .ref (ad 4)), (2, .int (nI (rN s))), (3, .ref (ad 0)), (4, .ref (ad 1)), (5, .ref (ad 2))] rfl (nI_inc (9 + u) 1 (by decide)) rfl (by decide) dL_tests_357 ?_
                        refine v_goto (tgt := 328) C dL_tests_360 (by decide) ?_
                        refine v_lvp [0, 2, 1, 3, 4, 5, 6, 7, 8, 9] rfl ?_
                        refine v_widen (c2 := 360 + 110 * m + 10 * (u + 1)) (s2 := 7200 + 2200 * m + 200 * (u + 1)) (by omega) (by omega) ?_
                        exact ih8 (u + 1) g11 h11 (by omega) xi11 fr11 lw11 (by omega)
                      · have c12 := (nk_ne_f (a := (vState s m (9 + u))) 4 (by decide) (by omega) (by decide)).mp c12
                        refine v_iconst (v := 1) C dL_tests_349 (by decide) ?_
                        refine v_goto (tgt := 354) C dL_tests_350 (by decide) ?_
                        refine v_iadd C dL_tests_354 (v_eqi (y := (nI (bk s 9 11 m + cnt (fun q => isB s m (9 + q)) (u + 1)))) ((nI_adk _ 1 (by decide)).trans (congrArg nI (show _ = bk s 9 11 m + cnt (fun q => isB s m (9 + q)) (u + 1) by rw [cnt_t (by skip; exact decide_eq_true c12)]; rfl))) ?_)
                        refine v_istore C [(7, .int (nI (bk s 9 11 m + cnt (fun q => isB s m (9 + q)) (u + 1)))), (9, .int (nI (9 + u))), (8, .int (nI m)), (6, .int (nI (bk s 0 9 k))), (0, .ref x), (1, .ref (ad 4)), (2, .int (nI (rN s))), (3, .ref (ad 0)), (4, .ref (ad 1)), (5, .ref (ad 2))] rfl (by decide) dL_tests_355 ?_
                        refine v_iinc C 1 [(9, .int (nI ((9 + u) + 1))), (7, .int (nI (bk s 9 11 m + cnt (fun q => isB s m (9 + q)) (u + 1)))), (8, .int (nI m)), (6, .int (nI (bk s 0 9 k))), (0, .ref x), (1, .ref (ad 4)), (2, .int (nI (rN s))), (3, .ref (ad 0)), (4, .ref (ad 1)), (5, .ref (ad 2))] rfl (nI_inc (9 + u) 1 (by decide)) rfl (by decide) dL_tests_357 ?_
                        refine v_goto (tgt := 328) C dL_tests_360 (by decide) ?_
                        refine v_lvp [0, 2, 1, 3, 4, 5, 6, 7, 8, 9] rfl ?_
                        refine v_widen (c2 := 360 + 110 * m + 10 * (u + 1)) (s2 := 7200 + 2200 * m + 200 * (u + 1)) (by omega) (by omega) ?_
                        exact ih8 (u + 1) g11 h11 (by omega) xi11 fr11 lw11 (by omega)
                    · exact absurd ((k_isRQ (by omega) (by omega) (by omega)).symm.trans w11.2.1) (by decide)
              refine v_lvp [0, 1, 2, 3, 4, 5, 6, 7, 8, 9] rfl ?_
              refine v_widen (c2 := 360 + 110 * m + 10 * 0) (s2 := 7200 + 2200 * m + 200 * 0) (by omega) (by omega) ?_
              exact L8 12 0 g2 h2 (by omega) xi2 fr2 lw2 (by omega)
        refine v_lvp [0, 1, 2, 3, 4, 5, 6, 7, 8] rfl ?_
        refine v_widen (c2 := 360 + 110 * 0) (s2 := 7200 + 2200 * 0) (by omega) (by omega) ?_
        exact L3 (rN s + 1) 0 g2 h2 (Nat.zero_le _) xi2 fr2 lw2 (by omega)
      · have c2 := (nn_ge_f (a := k) (b := (rN s)) (by omega) (by omega)).mp c2
        refine v_iconst (v := 0) C dL_tests_12 (by decide) ?_
        refine v_istore C [(8, .int 0), (7, .int (nI k)), (6, .int (nI (bk s 0 9 k))), (0, .ref x), (1, .ref (ad 4)), (2, .int (nI (rN s))), (3, .ref (ad 0)), (4, .ref (ad 1)), (5, .ref (ad 2))] rfl (by decide) dL_tests_13 ?_
        have L17 : ∀ (d : Nat) (q : Nat) (g2 : XGh) (h2 : zH), (q ≤ 9) → (XI G h2 g2 x s) → (XFr g g2 h h2) → (LW G h2 g2 ad F A D VV B U S) → (9 < q + d) → V zp l ze (rmm 19 600 12000) zs zm zargs zbelow zmeth zc G 18 Q h2 (180 * k + 20 * q) (3600 * k + 400 * q) 15 [(8, .int (nI q)), (7, .int (nI k)), (6, .int (nI (bk s 0 9 k + cnt (fun q => isB s k (0 + q)) q))), (0, .ref x), (1, .ref (ad 4)), (2, .int (nI (rN s))), (3, .ref (ad 0)), (4, .ref (ad 1)), (5, .ref (ad 2))] [] := by
          intro d
          induction d with
          | zero =>
            intro q g2 h2 hq xi2 fr2 lw2 hd
            exact absurd hd (by omega)
          | succ d ih17 =>
            intro q g2 h2 hq xi2 fr2 lw2 hd
            refine v_iload C 0 rfl dL_tests_15 ?_
            refine v_bipush (v := 9) C dL_tests_17 (by decide) ?_
            refine v_icmp_ge (tgt := 306) C dL_tests_19 (by decide) (fun c18 => ?_) (fun c18 => ?_)
            · have c18 := (nk_ge (a := q) 9 (by decide) (by omega) (by decide)).mp c18
              refine v_iinc C 1 [(7, .int (nI (k + 1))), (8, .int (nI q)), (6, .int (nI (bk s 0 9 k + cnt (fun q => isB s k (0 + q)) q))), (0, .ref x), (1, .ref (ad 4)), (2, .int (nI (rN s))), (3, .ref (ad 0)), (4, .ref (ad 1)), (5, .ref (ad 2))] rfl (nI_inc k 1 (by decide)) rfl (by decide) dL_tests_306 ?_
              refine v_goto (tgt := 6) C dL_tests_309 (by decide) ?_
              refine v_lvp [0, 2, 3, 4, 5, 6, 7, 8] rfl ?_
              obtain rfl : q = 9 := by omega
              refine v_widen (c2 := 180 * (k + 1)) (s2 := 3600 * (k + 1)) (by omega) (by omega) ?_
              exact ih1 (k + 1) g2 h2 (by omega) xi2 fr2 lw2 (by omega)
            · have c18 := (nk_ge_f (a := q) 9 (by decide) (by omega) (by decide)).mp c18
              have hq9 : q < 9 := by omega
              obtain ⟨hE0, hE3, hEc, -⟩ := hT.2 k (by omega)
              obtain ⟨e0, e1, e2, eL⟩ := hE0 (by omega)
              obtain ⟨hrT, hrB, hrW, hrQ⟩ := hw.2.2.2.2.1.2.1 k (by omega)
              have hlw := lmA_wth (q := q) (l := rL s k) (fun z hz => (hrQ z (by omega)).1)
              have hv4 := vState_le s k q
              refine v_bipush (v := 32) C dL_tests_22 (by decide) ?_
              refine v_iload C 1 rfl dL_tests_24 ?_
              refine v_imul C dL_tests_26 (v_eqi (nI_kml k 32 (by decide)) ?_)
              refine v_istore C [(9, .int (nI (32 * k))), (8, .int (nI q)), (7, .int (nI k)), (6, .int (nI (bk s 0 9 k + cnt (fun q => isB s k (0 + q)) q))), (0, .ref x), (1, .ref (ad 4)), (2, .int (nI (rN s))), (3, .ref (ad 0)), (4, .ref (ad 1)), (5, .ref (ad 2))] rfl (by decide) dL_tests_27 ?_
              refine v_aload_n C 5 rfl dL_tests_29 rfl ?_
              refine v_iload C 0 rfl dL_tests_30 ?_
              refine v_iald C lw2.1.2.2.2.2.1 (vpin (show 32 * k < 64 by omega) (by decide)) dL_tests_32 (v_eqi (y := (nI (rT s k))) ((congrArg B (nI_clamp (show 32 * k < 2 ^ 31 by omega))).trans e0) ?_)
              refine v_iload C 1 rfl dL_tests_33 ?_
              refine v_aload_n C 7 rfl dL_tests_35 rfl ?_
              refine v_aload C 8 rfl dL_tests_36 ?_
              refine v_aload C 9 rfl dL_tests_38 ?_
              refine v_callS (rest := []) C (c_L_value l hl G (ad 0) (ad 1) (ad 2) (rT s k) q N F A D T lv s h2 hw he lw2.1.1 lw2.1.2.1 lw2.1.2.2.1 (by omega) (by omega)) S_L_138 rfl rfl (Nat.le_of_ble_eq_true rfl) ⟨Nat.le_of_ble_eq_true rfl, Nat.le_of_ble_eq_true rfl⟩ ⟨by show 180 * k + 20 * q + 0 ≤ 600; omega, by show 3600 * k + 400 * q + 0 ≤ 12000; omega⟩ dL_tests_40 (fun l21 h21 q21 => ?_)
              obtain ⟨e21, rfl⟩ := q21; subst e21
              refine v_lstore C [(10, .long (oV s (rT s k) q)), (9, .int (nI (32 * k))), (8, .int (nI q)), (7, .int (nI k)), (6, .int (nI (bk s 0 9 k + cnt (fun q => isB s k (0 + q)) q))), (0, .ref x), (1, .ref (ad 4)), (2, .int (nI (rN s))), (3, .ref (ad 0)), (4, .ref (ad 1)), (5, .ref (ad 2))] rfl (by decide) dL_tests_43 ?_
              refine v_aload_n C 6 rfl dL_tests_45 rfl ?_
              refine v_iload C 1 rfl dL_tests_46 ?_
              refine v_iconst (v := 1) C dL_tests_48 (by decide) ?_
              refine v_iadd C dL_tests_49 (v_eqi (nI_adk (32 * k) 1 (by decide)) ?_)
              refine v_iald C lw2.1.2.2.2.2.1 (vpin (show 32 * k + 1 < 64 by omega) (by decide)) dL_tests_50 (v_eqi (y := (nI (rB s k))) ((congrArg B (nI_clamp (show 32 * k + 1 < 2 ^ 31 by omega))).trans e1) ?_)
              refine v_iload C 2 rfl dL_tests_51 ?_
              refine v_aload_n C 8 rfl dL_tests_53 rfl ?_
              refine v_aload C 9 rfl dL_tests_54 ?_
              refine v_aload C 10 rfl dL_tests_56 ?_
              refine v_callS (rest := []) C (c_L_value l hl G (ad 0) (ad 1) (ad 2) (rB s k) q N F A D T lv s h2 hw he lw2.1.1 lw2.1.2.1 lw2.1.2.2.1 (by omega) (by omega)) S_L_138 rfl rfl (Nat.le_of_ble_eq_true rfl) ⟨Nat.le_of_ble_eq_true rfl, Nat.le_of_ble_eq_true rfl⟩ ⟨by show 180 * k + 20 * q + 0 + 0 ≤ 600; omega, by show 3600 * k + 400 * q + 0 + 0 ≤ 12000; omega⟩ dL_tests_58 (fun l23 h23 q23 => ?_)
              obtain ⟨e23, rfl⟩ := q23; subst e23
              refine v_lstore C [(12, .long (oV s (rB s k) q)), (10, .long (oV s (rT s k) q)), (9, .int (nI (32 * k))), (8, .int (nI q)), (7, .int (nI k)), (6, .int (nI (bk s 0 9 k + cnt (fun q => isB s k (0 + q)) q))), (0, .ref x), (1, .ref (ad 4)), (2, .int (nI (rN s))), (3, .ref (ad 0)), (4, .ref (ad 1)), (5, .ref (ad 2))] rfl (by decide) dL_tests_61 ?_
              refine v_aload_n C 7 rfl dL_tests_63 rfl ?_
              refine v_iload C 2 rfl dL_tests_64 ?_
              refine v_bipush (v := 13) C dL_tests_66 (by decide) ?_
              refine v_iadd C dL_tests_68 (v_eqi (nI_adk (32 * k) 13 (by decide)) ?_)
              refine v_iload C 3 rfl dL_tests_69 ?_
              refine v_iadd C dL_tests_71 (v_eqi (nI_add ((32 * k) + 13) q) ?_)
              refine v_iald C lw2.1.2.2.2.2.1 (vpin (show 32 * k + 13 + q < 64 by omega) (by decide)) dL_tests_72 (v_eqi (y := (rC s k q)) ((congrArg B (nI_clamp (show 32 * k + 13 + q < 2 ^ 31 by omega))).trans (hEc q hq9).1) ?_)
              refine v_istore C [(14, .int (rC s k q)), (12, .long (oV s (rB s k) q)), (10, .long (oV s (rT s k) q)), (9, .int (nI (32 * k))), (8, .int (nI q)), (7, .int (nI k)), (6, .int (nI (bk s 0 9 k + cnt (fun q => isB s k (0 + q)) q))), (0, .ref x), (1, .ref (ad 4)), (2, .int (nI (rN s))), (3, .ref (ad 0)), (4, .ref (ad 1)), (5, .ref (ad 2))] rfl (by decide) dL_tests_73 ?_
              refine v_aload_n C 8 rfl dL_tests_75 rfl ?_
              refine v_iload C 5 rfl dL_tests_76 ?_
              refine v_iload C 4 rfl dL_tests_78 ?_
              refine v_callS (rest := []) C (c_L_limit l hl G (ad 4) k q B (rL s k) h2 lw2.1.2.2.2.2.1 (by omega) hq9 eL (fun z hz y => (wth_m1 (hrQ z (by omega)).1).mp y)) S_L_140 rfl rfl (Nat.le_of_ble_eq_true rfl) ⟨Nat.le_of_ble_eq_true rfl, Nat.le_of_ble_eq_true rfl⟩ ⟨by show 180 * k + 20 * q + 0 + 0 + 0 ≤ 600; omega, by show 3600 * k + 400 * q + 0 + 0 + 0 ≤ 12000; omega⟩ dL_tests_80 (fun i26 h26 q26 => ?_)
              obtain ⟨e26, rfl⟩ := q26; subst e26
              refine v_istore C [(15, .int (lmA (rL s k) q)), (14, .int (rC s k q)), (12, .long (oV s (rB s k) q)), (10, .long (oV s (rT s k) q)), (9, .int (nI (32 * k))), (8, .int (nI q)), (7, .int (nI k)), (6, .int (nI (bk s 0 9 k + cnt (fun q => isB s k (0 + q)) q))), (0, .ref x), (1, .ref (ad 4)), (2, .int (nI (rN s))), (3, .ref (ad 0)), (4, .ref (ad 1)), (5, .ref (ad 2))] rfl (by decide) dL_tests_83 ?_
              have M201 : V zp l ze (rmm 19 600 12000) zs zm zargs zbelow zmeth zc G 18 Q h2 (180 * k + 20 * q + 0 + 0 + 0) (3600 * k + 400 * q + 0 + 0 + 0) 201 [(15, .int (lmA (rL s k) q)), (14, .int (rC s k q)), (12, .long (oV s (rB s k) q)), (10, .long (oV s (rT s k) q)), (9, .int (nI (32 * k))), (8, .int (nI q)), (7, .int (nI k)), (6, .int (nI (bk s 0 9 k + cnt (fun q => isB s k (0 + q)) q))), (0, .ref x), (1, .ref (ad 4)), (2, .int (nI (rN s))), (3, .ref (ad 0)), (4, .ref (ad 1)), (5, .ref (ad 2))] [.int (nI (vState s k q))] := by
                refine v_istore C [(17, .int (nI (vState s k q))), (15, .int (lmA (rL s k) q)), (14, .int (rC s k q)), (12, .long (oV s (rB s k) q)), (10, .long (oV s (rT s k) q)), (9, .int (nI (32 * k))), (8, .int (nI q)), (7, .int (nI k)), (6, .int (nI (bk s 0 9 k + cnt (fun q => isB s k (0 + q)) q))), (0, .ref x), (1, .ref (ad 4)), (2, .int (nI (rN s))), (3, .ref (ad 0)), (4, .ref (ad 1)), (5, .ref (ad 2))] rfl (by decide) dL_tests_201 ?_
                refine v_aload_n C 9 rfl dL_tests_203 rfl ?_
                refine v_iload C 7 rfl dL_tests_204 ?_
                refine v_iload C 6 rfl dL_tests_206 ?_
                refine v_callVX (rest := []) C (c_X4_state l hl G x g2 s (nI k) (nI q) h2 xi2 hw) K_L_148 xi2.1.1.1 rfl rfl (Nat.le_of_ble_eq_true rfl) ⟨Nat.le_of_ble_eq_true rfl, Nat.le_of_ble_eq_true rfl⟩ ⟨by show 180 * k + 20 * q + 0 + 0 + 0 + 10 ≤ 600; omega, by show 3600 * k + 400 * q + 0 + 0 + 0 + 200 ≤ 12000; omega⟩ dL_tests_208 (fun r27 h27 w27 => ?_) (fun E27 h27 w27 => ?_)
                · obtain ⟨-, er27, g27, xi27, fz27⟩ := w27
                  have lw27 := lw2.fr fz27
                  have fr27 := fr2.trans fz27
                  replace er27 := er27.trans (by rw [cl_nI (show k < 2 ^ 31 by omega), cl_nI (show q < 2 ^ 31 by omega)])
                  subst er27
                  refine v_iload C 0 rfl dL_tests_211 ?_
                  refine v_icmp_eq (tgt := 218) C dL_tests_213 (by decide) (fun c28 => ?_) (fun c28 => absurd rfl c28)
                  refine v_iload C 1 rfl dL_tests_218 ?_
                  refine v_if_lt (tgt := 234) C dL_tests_220 (by decide) (fun c29 => ?_) (fun c29 => ?_)
                  · have c29 := (wth_m1 hlw).mp c29
                    refine v_aload_n C 9 rfl dL_tests_234 rfl ?_
                    refine v_bipush (v := 7) C dL_tests_235 (by decide) ?_
                    refine v_iload C 7 rfl dL_tests_237 ?_
                    refine v_iload C 6 rfl dL_tests_239 ?_
                    refine v_iconst (v := 0) C dL_tests_241 (by decide) ?_
                    refine v_callL (rest := []) C hNc (c_L_refused_room_3 l hl G x g27 s (nI k) (nI q) 0 h27 xi27 hw (k_room2 (by omega) (by omega) (by omega) (Or.inl c29))) CL_L_151 rfl rfl (Nat.le_of_ble_eq_true rfl) ⟨Nat.le_of_ble_eq_true rfl, Nat.le_of_ble_eq_true rfl⟩ ⟨by show 180 * k + 20 * q + 0 + 0 + 0 + 10 + 10 ≤ 600; omega, by show 3600 * k + 400 * q + 0 + 0 + 0 + 200 + 200 ≤ 12000; omega⟩ dL_tests_242 (fun r30 h30 w30 => ?_)
                    obtain ⟨e30, rfl⟩ := w30; subst e30
                    refine v_iconst (v := 3) C dL_tests_245 (by decide) ?_
                    refine v_icmp_eq (tgt := 284) C dL_tests_246 (by decide) (fun c31 => ?_) (fun c31 => absurd c31 (by decide))
                    refine v_iload C 8 rfl dL_tests_284 ?_
                    refine v_iload C 0 rfl dL_tests_286 ?_
                    refine v_iconst (v := 4) C dL_tests_288 (by decide) ?_
                    refine v_icmp_ne (tgt := 296) C dL_tests_289 (by decide) (fun c32 => ?_) (fun c32 => ?_)
                    · have c32 := (nk_ne (a := (vState s k q)) 4 (by decide) (by omega) (by decide)).mp c32
                      refine v_iconst (v := 0) C dL_tests_296 (by decide) ?_
                      refine v_iadd C dL_tests_297 (v_eqi (y := (nI (bk s 0 9 k + cnt (fun q => isB s k (0 + q)) (q + 1)))) ((nI_adk _ 0 (by decide)).trans (congrArg nI (show _ = bk s 0 9 k + cnt (fun q => isB s k (0 + q)) (q + 1) by rw [cnt_f (by show ¬ decide (vState s k (0 + q) = 4) = true; rw [Nat.zero_add]; exact fun z => c32 (of_decide_eq_true z))]; rfl))) ?_)
                      refine v_istore C [(6, .int (nI (bk s 0 9 k + cnt (fun q => isB s k (0 + q)) (q + 1)))), (17, .int (nI (vState s k q))), (15, .int (lmA (rL s k) q)), (14, .int (rC s k q)), (12, .long (oV s (rB s k) q)), (10, .long (oV s (rT s k) q)), (9, .int (nI (32 * k))), (8, .int (nI q)), (7, .int (nI k)), (0, .ref x), (1, .ref (ad 4)), (2, .int (nI (rN s))), (3, .ref (ad 0)), (4, .ref (ad 1)), (5, .ref (ad 2))] rfl (by decide) dL_tests_298 ?_
                      refine v_iinc C 7 [(8, .int (nI (q + 1))), (6, .int (nI (bk s 0 9 k + cnt (fun q => isB s k (0 + q)) (q + 1)))), (17, .int (nI (vState s k q))), (15, .int (lmA (rL s k) q)), (14, .int (rC s k q)), (12, .long (oV s (rB s k) q)), (10, .long (oV s (rT s k) q)), (9, .int (nI (32 * k))), (7, .int (nI k)), (0, .ref x), (1, .ref (ad 4)), (2, .int (nI (rN s))), (3, .ref (ad 0)), (4, .ref (ad 1)), (5, .ref (ad 2))] rfl (nI_inc q 1 (by decide)) rfl (by decide) dL_tests_300 ?_
                      refine v_goto (tgt := 15) C dL_tests_303 (by decide) ?_
                      refine v_lvp [0, 8, 1, 9, 10, 11, 12, 13, 14] rfl ?_
                      refine v_widen (c2 := 180 * k + 20 * (q + 1)) (s2 := 3600 * k + 400 * (q + 1)) (by omega) (by omega) ?_
                      exact ih17 (q + 1) g27 h27 (by omega) xi27 fr27 lw27 (by omega)
                    · have c32 := (nk_ne_f (a := (vState s k q)) 4 (by decide) (by omega) (by decide)).mp c32
                      refine v_iconst (v := 1) C dL_tests_292 (by decide) ?_
                      refine v_goto (tgt := 297) C dL_tests_293 (by decide) ?_
                      refine v_iadd C dL_tests_297 (v_eqi (y := (nI (bk s 0 9 k + cnt (fun q => isB s k (0 + q)) (q + 1)))) ((nI_adk _ 1 (by decide)).trans (congrArg nI (show _ = bk s 0 9 k + cnt (fun q => isB s k (0 + q)) (q + 1) by rw [cnt_t (by show decide (vState s k (0 + q) = 4) = true; rw [Nat.zero_add]; exact decide_eq_true c32)]; rfl))) ?_)
                      refine v_istore C [(6, .int (nI (bk s 0 9 k + cnt (fun q => isB s k (0 + q)) (q + 1)))), (17, .int (nI (vState s k q))), (15, .int (lmA (rL s k) q)), (14, .int (rC s k q)), (12, .long (oV s (rB s k) q)), (10, .long (oV s (rT s k) q)), (9, .int (nI (32 * k))), (8, .int (nI q)), (7, .int (nI k)), (0, .ref x), (1, .ref (ad 4)), (2, .int (nI (rN s))), (3, .ref (ad 0)), (4, .ref (ad 1)), (5, .ref (ad 2))] rfl (by decide) dL_tests_298 ?_
                      refine v_iinc C 7 [(8, .int (nI (q + 1))), (6, .int (nI (bk s 0 9 k + cnt (fun q => isB s k (0 + q)) (q + 1)))), (17, .int (nI (vState s k q))), (15, .int (lmA (rL s k) q)), (14, .int (rC s k q)), (12, .long (oV s (rB s k) q)), (10, .long (oV s (rT s k) q)), (9, .int (nI (32 * k))), (7, .int (nI k)), (0, .ref x), (1, .ref (ad 4)), (2, .int (nI (rN s))), (3, .ref (ad 0)), (4, .ref (ad 1)), (5, .ref (ad 2))] rfl (nI_inc q 1 (by decide)) rfl (by decide) dL_tests_300 ?_
                      refine v_goto (tgt := 15) C dL_tests_303 (by decide) ?_
                      refine v_lvp [0, 8, 1, 9, 10, 11, 12, 13, 14] rfl ?_
                      refine v_widen (c2 := 180 * k + 20 * (q + 1)) (s2 := 3600 * k + 400 * (q + 1)) (by omega) (by omega) ?_
                      exact ih17 (q + 1) g27 h27 (by omega) xi27 fr27 lw27 (by omega)
                  · have c29 := (not_congr (wth_m1 hlw)).mp c29
                    refine v_lload C 3 rfl dL_tests_223 ?_
                    refine v_iload C 2 rfl dL_tests_225 ?_
                    refine v_i2l (v := ((rC s k q) : Int32).toInt64) C dL_tests_227 rfl ?_
                    refine v_ladd C dL_tests_228 (v_eql (y := ((oV s (rB s k) q) + (Int32.toInt64 (rC s k q)))) (rfl) ?_)
                    refine v_lconst (v := 0) C dL_tests_229 (by decide) ?_
                    refine v_lcmp C dL_tests_230 ?_
                    refine v_if_gt (tgt := 251) C dL_tests_231 (by decide) (fun c38 => ?_) (fun c38 => ?_)
                    · have c38 := (lgc_gt ((oV s (rB s k) q) + (Int32.toInt64 (rC s k q))) 0).mp c38
                      refine v_aload_n C 9 rfl dL_tests_251 rfl ?_
                      refine v_iload C 7 rfl dL_tests_252 ?_
                      refine v_iload C 6 rfl dL_tests_254 ?_
                      refine v_callVX (rest := []) C (c_X4_room l hl G x g27 s (nI k) (nI q) h27 xi27 hw) K_L_114 xi27.1.1.1 rfl rfl (Nat.le_of_ble_eq_true rfl) ⟨Nat.le_of_ble_eq_true rfl, Nat.le_of_ble_eq_true rfl⟩ ⟨by show 180 * k + 20 * q + 0 + 0 + 0 + 10 + 10 ≤ 600; omega, by show 3600 * k + 400 * q + 0 + 0 + 0 + 200 + 200 ≤ 12000; omega⟩ dL_tests_256 (fun r39 h39 w39 => ?_) (fun E39 h39 w39 => ?_)
                      · obtain ⟨-, er39, g39, xi39, fz39⟩ := w39
                        have lw39 := lw27.fr fz39
                        have fr39 := fr27.trans fz39
                        replace er39 := er39.trans (by rw [cl_nI (show k < 2 ^ 31 by omega), cl_nI (show q < 2 ^ 31 by omega)])
                        subst er39
                        refine v_iload C 1 rfl dL_tests_259 ?_
                        refine v_i2l (v := ((lmA (rL s k) q) : Int32).toInt64) C dL_tests_261 rfl ?_
                        refine v_lload C 3 rfl dL_tests_262 ?_
                        refine v_iload C 2 rfl dL_tests_264 ?_
                        refine v_i2l (v := ((rC s k q) : Int32).toInt64) C dL_tests_266 rfl ?_
                        refine v_ladd C dL_tests_267 (v_eql (y := ((oV s (rB s k) q) + (Int32.toInt64 (rC s k q)))) (rfl) ?_)
                        refine v_lmul C dL_tests_268 (v_eql (y := ((Int32.toInt64 (lmA (rL s k) q)) * ((oV s (rB s k) q) + (Int32.toInt64 (rC s k q))))) (rfl) ?_)
                        refine v_ldc2 C KO_L_30 dL_tests_269 ?_
                        refine v_callS (rest := [.long (vRoom s k q)]) C (c_L_down l hl G ((Int32.toInt64 (lmA (rL s k) q)) * ((oV s (rB s k) q) + (Int32.toInt64 (rC s k q)))) h39) S_L_32 rfl rfl (Nat.le_of_ble_eq_true rfl) ⟨Nat.le_of_ble_eq_true rfl, Nat.le_of_ble_eq_true rfl⟩ ⟨by show 180 * k + 20 * q + 0 + 0 + 0 + 10 + 10 + 0 ≤ 600; omega, by show 3600 * k + 400 * q + 0 + 0 + 0 + 200 + 200 + 0 ≤ 12000; omega⟩ dL_tests_272 (fun l42 h42 q42 => ?_)
                        obtain ⟨e42, rfl⟩ := q42; subst e42
                        refine v_lload C 4 rfl dL_tests_275 ?_
                        refine v_lsub C dL_tests_277 (v_eql (y := ((zfd ((Int32.toInt64 (lmA (rL s k) q)) * ((oV s (rB s k) q) + (Int32.toInt64 (rC s k q))))) - (oV s (rT s k) q))) (rfl) ?_)
                        refine v_lcmp C dL_tests_278 ?_
                        refine v_if_eq (tgt := 284) C dL_tests_279 (by decide) (fun c44 => ?_) (fun c44 => absurd ((lgc_eq _ _).mpr rfl) c44)
                        have c44 := (lgc_eq (vRoom s k q) ((zfd ((Int32.toInt64 (lmA (rL s k) q)) * ((oV s (rB s k) q) + (Int32.toInt64 (rC s k q))))) - (oV s (rT s k) q))).mp c44
                        refine v_iload C 8 rfl dL_tests_284 ?_
                        refine v_iload C 0 rfl dL_tests_286 ?_
                        refine v_iconst (v := 4) C dL_tests_288 (by decide) ?_
                        refine v_icmp_ne (tgt := 296) C dL_tests_289 (by decide) (fun c45 => ?_) (fun c45 => ?_)
                        · have c45 := (nk_ne (a := (vState s k q)) 4 (by decide) (by omega) (by decide)).mp c45
                          refine v_iconst (v := 0) C dL_tests_296 (by decide) ?_
                          refine v_iadd C dL_tests_297 (v_eqi (y := (nI (bk s 0 9 k + cnt (fun q => isB s k (0 + q)) (q + 1)))) ((nI_adk _ 0 (by decide)).trans (congrArg nI (show _ = bk s 0 9 k + cnt (fun q => isB s k (0 + q)) (q + 1) by rw [cnt_f (by show ¬ decide (vState s k (0 + q) = 4) = true; rw [Nat.zero_add]; exact fun z => c45 (of_decide_eq_true z))]; rfl))) ?_)
                          refine v_istore C [(6, .int (nI (bk s 0 9 k + cnt (fun q => isB s k (0 + q)) (q + 1)))), (17, .int (nI (vState s k q))), (15, .int (lmA (rL s k) q)), (14, .int (rC s k q)), (12, .long (oV s (rB s k) q)), (10, .long (oV s (rT s k) q)), (9, .int (nI (32 * k))), (8, .int (nI q)), (7, .int (nI k)), (0, .ref x), (1, .ref (ad 4)), (2, .int (nI (rN s))), (3, .ref (ad 0)), (4, .ref (ad 1)), (5, .ref (ad 2))] rfl (by decide) dL_tests_298 ?_
                          refine v_iinc C 7 [(8, .int (nI (q + 1))), (6, .int (nI (bk s 0 9 k + cnt (fun q => isB s k (0 + q)) (q + 1)))), (17, .int (nI (vState s k q))), (15, .int (lmA (rL s k) q)), (14, .int (rC s k q)), (12, .long (oV s (rB s k) q)), (10, .long (oV s (rT s k) q)), (9, .int (nI (32 * k))), (7, .int (nI k)), (0, .ref x), (1, .ref (ad 4)), (2, .int (nI (rN s))), (3, .ref (ad 0)), (4, .ref (ad 1)), (5, .ref (ad 2))] rfl (nI_inc q 1 (by decide)) rfl (by decide) dL_tests_300 ?_
                          refine v_goto (tgt := 15) C dL_tests_303 (by decide) ?_
                          refine v_lvp [0, 8, 1, 9, 10, 11, 12, 13, 14] rfl ?_
                          refine v_widen (c2 := 180 * k + 20 * (q + 1)) (s2 := 3600 * k + 400 * (q + 1)) (by omega) (by omega) ?_
                          exact ih17 (q + 1) g39 h39 (by omega) xi39 fr39 lw39 (by omega)
                        · have c45 := (nk_ne_f (a := (vState s k q)) 4 (by decide) (by omega) (by decide)).mp c45
                          refine v_iconst (v := 1) C dL_tests_292 (by decide) ?_
                          refine v_goto (tgt := 297) C dL_tests_293 (by decide) ?_
                          refine v_iadd C dL_tests_297 (v_eqi (y := (nI (bk s 0 9 k + cnt (fun q => isB s k (0 + q)) (q + 1)))) ((nI_adk _ 1 (by decide)).trans (congrArg nI (show _ = bk s 0 9 k + cnt (fun q => isB s k (0 + q)) (q + 1) by rw [cnt_t (by show decide (vState s k (0 + q) = 4) = true; rw [Nat.zero_add]; exact decide_eq_true c45)]; rfl))) ?_)
                          refine v_istore C [(6, .int (nI (bk s 0 9 k + cnt (fun q => isB s k (0 + q)) (q + 1)))), (17, .int (nI (vState s k q))), (15, .int (lmA (rL s k) q)), (14, .int (rC s k q)), (12, .long (oV s (rB s k) q)), (10, .long (oV s (rT s k) q)), (9, .int (nI (32 * k))), (8, .int (nI q)), (7, .int (nI k)), (0, .ref x), (1, .ref (ad 4)), (2, .int (nI (rN s))), (3, .ref (ad 0)), (4, .ref (ad 1)), (5, .ref (ad 2))] rfl (by decide) dL_tests_298 ?_
                          refine v_iinc C 7 [(8, .int (nI (q + 1))), (6, .int (nI (bk s 0 9 k + cnt (fun q => isB s k (0 + q)) (q + 1)))), (17, .int (nI (vState s k q))), (15, .int (lmA (rL s k) q)), (14, .int (rC s k q)), (12, .long (oV s (rB s k) q)), (10, .long (oV s (rT s k) q)), (9, .int (nI (32 * k))), (7, .int (nI k)), (0, .ref x), (1, .ref (ad 4)), (2, .int (nI (rN s))), (3, .ref (ad 0)), (4, .ref (ad 1)), (5, .ref (ad 2))] rfl (nI_inc q 1 (by decide)) rfl (by decide) dL_tests_300 ?_
                          refine v_goto (tgt := 15) C dL_tests_303 (by decide) ?_
                          refine v_lvp [0, 8, 1, 9, 10, 11, 12, 13, 14] rfl ?_
                          refine v_widen (c2 := 180 * k + 20 * (q + 1)) (s2 := 3600 * k + 400 * (q + 1)) (by omega) (by omega) ?_
                          exact ih17 (q + 1) g39 h39 (by omega) xi39 fr39 lw39 (by omega)
                      · obtain ⟨-, w39⟩ := w39
                        rcases w39 with ⟨ek, -⟩ | ⟨ek, -⟩
                        · exact absurd ((k_room0 (by omega) (by omega) (by omega) c29 c38).symm.trans ek) (by decide)
                        · exact absurd ((k_room0 (by omega) (by omega) (by omega) c29 c38).symm.trans ek) (by decide)
                    · have c38 := (lgc_gt_f ((oV s (rB s k) q) + (Int32.toInt64 (rC s k q))) 0).mp c38
                      refine v_aload_n C 9 rfl dL_tests_234 rfl ?_
                      refine v_bipush (v := 7) C dL_tests_235 (by decide) ?_
                      refine v_iload C 7 rfl dL_tests_237 ?_
                      refine v_iload C 6 rfl dL_tests_239 ?_
                      refine v_iconst (v := 0) C dL_tests_241 (by decide) ?_
                      refine v_callL (rest := []) C hNc (c_L_refused_room_3 l hl G x g27 s (nI k) (nI q) 0 h27 xi27 hw (k_room2 (by omega) (by omega) (by omega) (Or.inr c38))) CL_L_151 rfl rfl (Nat.le_of_ble_eq_true rfl) ⟨Nat.le_of_ble_eq_true rfl, Nat.le_of_ble_eq_true rfl⟩ ⟨by show 180 * k + 20 * q + 0 + 0 + 0 + 10 + 10 ≤ 600; omega, by show 3600 * k + 400 * q + 0 + 0 + 0 + 200 + 200 ≤ 12000; omega⟩ dL_tests_242 (fun r50 h50 w50 => ?_)
                      obtain ⟨e50, rfl⟩ := w50; subst e50
                      refine v_iconst (v := 3) C dL_tests_245 (by decide) ?_
                      refine v_icmp_eq (tgt := 284) C dL_tests_246 (by decide) (fun c51 => ?_) (fun c51 => absurd c51 (by decide))
                      refine v_iload C 8 rfl dL_tests_284 ?_
                      refine v_iload C 0 rfl dL_tests_286 ?_
                      refine v_iconst (v := 4) C dL_tests_288 (by decide) ?_
                      refine v_icmp_ne (tgt := 296) C dL_tests_289 (by decide) (fun c52 => ?_) (fun c52 => ?_)
                      · have c52 := (nk_ne (a := (vState s k q)) 4 (by decide) (by omega) (by decide)).mp c52
                        refine v_iconst (v := 0) C dL_tests_296 (by decide) ?_
                        refine v_iadd C dL_tests_297 (v_eqi (y := (nI (bk s 0 9 k + cnt (fun q => isB s k (0 + q)) (q + 1)))) ((nI_adk _ 0 (by decide)).trans (congrArg nI (show _ = bk s 0 9 k + cnt (fun q => isB s k (0 + q)) (q + 1) by rw [cnt_f (by show ¬ decide (vState s k (0 + q) = 4) = true; rw [Nat.zero_add]; exact fun z => c52 (of_decide_eq_true z))]; rfl))) ?_)
                        refine v_istore C [(6, .int (nI (bk s 0 9 k + cnt (fun q => isB s k (0 + q)) (q + 1)))), (17, .int (nI (vState s k q))), (15, .int (lmA (rL s k) q)), (14, .int (rC s k q)), (12, .long (oV s (rB s k) q)), (10, .long (oV s (rT s k) q)), (9, .int (nI (32 * k))), (8, .int (nI q)), (7, .int (nI k)), (0, .ref x), (1, .ref (ad 4)), (2, .int (nI (rN s))), (3, .ref (ad 0)), (4, .ref (ad 1)), (5, .ref (ad 2))] rfl (by decide) dL_tests_298 ?_
                        refine v_iinc C 7 [(8, .int (nI (q + 1))), (6, .int (nI (bk s 0 9 k + cnt (fun q => isB s k (0 + q)) (q + 1)))), (17, .int (nI (vState s k q))), (15, .int (lmA (rL s k) q)), (14, .int (rC s k q)), (12, .long (oV s (rB s k) q)), (10, .long (oV s (rT s k) q)), (9, .int (nI (32 * k))), (7, .int (nI k)), (0, .ref x), (1, .ref (ad 4)), (2, .int (nI (rN s))), (3, .ref (ad 0)), (4, .ref (ad 1)), (5, .ref (ad 2))] rfl (nI_inc q 1 (by decide)) rfl (by decide) dL_tests_300 ?_
                        refine v_goto (tgt := 15) C dL_tests_303 (by decide) ?_
                        refine v_lvp [0, 8, 1, 9, 10, 11, 12, 13, 14] rfl ?_
                        refine v_widen (c2 := 180 * k + 20 * (q + 1)) (s2 := 3600 * k + 400 * (q + 1)) (by omega) (by omega) ?_
                        exact ih17 (q + 1) g27 h27 (by omega) xi27 fr27 lw27 (by omega)
                      · have c52 := (nk_ne_f (a := (vState s k q)) 4 (by decide) (by omega) (by decide)).mp c52
                        refine v_iconst (v := 1) C dL_tests_292 (by decide) ?_
                        refine v_goto (tgt := 297) C dL_tests_293 (by decide) ?_
                        refine v_iadd C dL_tests_297 (v_eqi (y := (nI (bk s 0 9 k + cnt (fun q => isB s k (0 + q)) (q + 1)))) ((nI_adk _ 1 (by decide)).trans (congrArg nI (show _ = bk s 0 9 k + cnt (fun q => isB s k (0 + q)) (q + 1) by rw [cnt_t (by show decide (vState s k (0 + q) = 4) = true; rw [Nat.zero_add]; exact decide_eq_true c52)]; rfl))) ?_)
                        refine v_istore C [(6, .int (nI (bk s 0 9 k + cnt (fun q => isB s k (0 + q)) (q + 1)))), (17, .int (nI (vState s k q))), (15, .int (lmA (rL s k) q)), (14, .int (rC s k q)), (12, .long (oV s (rB s k) q)), (10, .long (oV s (rT s k) q)), (9, .int (nI (32 * k))), (8, .int (nI q)), (7, .int (nI k)), (0, .ref x), (1, .ref (ad 4)), (2, .int (nI (rN s))), (3, .ref (ad 0)), (4, .ref (ad 1)), (5, .ref (ad 2))] rfl (by decide) dL_tests_298 ?_
                        refine v_iinc C 7 [(8, .int (nI (q + 1))), (6, .int (nI (bk s 0 9 k + cnt (fun q => isB s k (0 + q)) (q + 1)))), (17, .int (nI (vState s k q))), (15, .int (lmA (rL s k) q)), (14, .int (rC s k q)), (12, .long (oV s (rB s k) q)), (10, .long (oV s (rT s k) q)), (9, .int (nI (32 * k))), (7, .int (nI k)), (0, .ref x), (1, .ref (ad 4)), (2, .int (nI (rN s))), (3, .ref (ad 0)), (4, .ref (ad 1)), (5, .ref (ad 2))] rfl (nI_inc q 1 (by decide)) rfl (by decide) dL_tests_300 ?_
                        refine v_goto (tgt := 15) C dL_tests_303 (by decide) ?_
                        refine v_lvp [0, 8, 1, 9, 10, 11, 12, 13, 14] rfl ?_
                        refine v_widen (c2 := 180 * k + 20 * (q + 1)) (s2 := 3600 * k + 400 * (q + 1)) (by omega) (by omega) ?_
                        exact ih17 (q + 1) g27 h27 (by omega) xi27 fr27 lw27 (by omega)
                · exact absurd ((k_isRQ (by omega) (by omega) (by omega)).symm.trans w27.2.1) (by decide)
              have M139 : ¬ (dozes s k q ∨ lmA (rL s k) q = -1) → V zp l ze (rmm 19 600 12000) zs zm zargs zbelow zmeth zc G 18 Q h2 (180 * k + 20 * q + 0 + 0 + 0) (3600 * k + 400 * q + 0 + 0 + 0) 139 [(15, .int (lmA (rL s k) q)), (14, .int (rC s k q)), (12, .long (oV s (rB s k) q)), (10, .long (oV s (rT s k) q)), (9, .int (nI (32 * k))), (8, .int (nI q)), (7, .int (nI k)), (6, .int (nI (bk s 0 9 k + cnt (fun q => isB s k (0 + q)) q))), (0, .ref x), (1, .ref (ad 4)), (2, .int (nI (rN s))), (3, .ref (ad 0)), (4, .ref (ad 1)), (5, .ref (ad 2))] [] := by
                intro hnd
                refine v_lload C 3 rfl dL_tests_139 ?_
                refine v_lload C 2 rfl dL_tests_141 ?_
                refine v_iload C 0 rfl dL_tests_143 ?_
                refine v_i2l (v := ((lmA (rL s k) q) : Int32).toInt64) C dL_tests_145 rfl ?_
                refine v_callS (rest := []) C (c_L_kept l hl G (oV s (rT s k) q) (oV s (rB s k) q) (Int32.toInt64 (lmA (rL s k) q)) h2) S_L_144 rfl rfl (Nat.le_of_ble_eq_true rfl) ⟨Nat.le_of_ble_eq_true rfl, Nat.le_of_ble_eq_true rfl⟩ ⟨by show 180 * k + 20 * q + 0 + 0 + 0 + 0 ≤ 600; omega, by show 3600 * k + 400 * q + 0 + 0 + 0 + 0 ≤ 12000; omega⟩ dL_tests_146 (fun i57 h57 q57 => ?_)
                obtain ⟨e57, rfl⟩ := q57
                by_cases c57 : 0 < (oV s (rB s k) q) ∧ 100 * (oV s (rT s k) q) ≤ (Int32.toInt64 (lmA (rL s k) q)) * (oV s (rB s k) q)
                · rw [zb_t c57] at e57; subst e57
                  refine v_if_eq (tgt := 156) C dL_tests_149 (by decide) (fun c58 => absurd c58 (by decide)) (fun c58 => ?_)
                  refine v_iconst (v := 1) C dL_tests_152 (by decide) ?_
                  refine v_goto (tgt := 201) C dL_tests_153 (by decide) ?_
                  refine v_eqi (y := nI (vState s k q)) ((show (1 : Int32) = nI 1 by decide).trans (congrArg nI (vs_1 hnd c57)).symm) ?_
                  refine v_lvp [0, 1, 2, 3, 4, 5, 6, 7, 8, 9, 10, 11, 12, 13] rfl ?_
                  exact M201
                · rw [zb_f c57] at e57; subst e57
                  refine v_if_eq (tgt := 156) C dL_tests_149 (by decide) (fun c59 => ?_) (fun c59 => absurd c59 (by decide))
                  refine v_iload C 1 rfl dL_tests_156 ?_
                  refine v_if_le (tgt := 182) C dL_tests_158 (by decide) (fun c60 => ?_) (fun c60 => ?_)
                  · refine v_aload_n C 9 rfl dL_tests_182 rfl ?_
                    refine v_iload C 4 rfl dL_tests_183 ?_
                    refine v_bipush (v := 22) C dL_tests_185 (by decide) ?_
                    refine v_iadd C dL_tests_187 (v_eqi (nI_adk (32 * k) 22 (by decide)) ?_)
                    refine v_iload C 5 rfl dL_tests_188 ?_
                    refine v_iadd C dL_tests_190 (v_eqi (nI_add ((32 * k) + 22) q) ?_)
                    refine v_iald C lw2.1.2.2.2.2.1 (vpin (show 32 * k + 22 + q < 64 by omega) (by decide)) dL_tests_191 (v_eqi (y := (b01 (rV s k q))) ((congrArg B (nI_clamp (show 32 * k + 22 + q < 2 ^ 31 by omega))).trans (hEc q hq9).2) ?_)
                    refine v_iconst (v := 1) C dL_tests_192 (by decide) ?_
                    refine v_icmp_ne (tgt := 200) C dL_tests_193 (by decide) (fun c63 => ?_) (fun c63 => ?_)
                    · refine v_iconst (v := 4) C dL_tests_200 (by decide) ?_
                      refine v_eqi (y := nI (vState s k q)) ((show (4 : Int32) = nI 4 by decide).trans (congrArg nI (vs_4 hnd (vs_k0 c57) (cu_0 (hrQ q (by omega)).2 c60 (vs_k0 c57)) (fun z => c63 (b01_1.mpr z)))).symm) ?_
                      refine v_lvp [0, 1, 2, 3, 4, 5, 6, 7, 8, 9, 10, 11, 12, 13] rfl ?_
                      exact M201
                    · refine v_iconst (v := 3) C dL_tests_196 (by decide) ?_
                      refine v_goto (tgt := 201) C dL_tests_197 (by decide) ?_
                      refine v_eqi (y := nI (vState s k q)) ((show (3 : Int32) = nI 3 by decide).trans (congrArg nI (vs_3 hnd (vs_k0 c57) (cu_0 (hrQ q (by omega)).2 c60 (vs_k0 c57)) (b01_1.mp c63))).symm) ?_
                      refine v_lvp [0, 1, 2, 3, 4, 5, 6, 7, 8, 9, 10, 11, 12, 13] rfl ?_
                      exact M201
                  · refine v_lload C 3 rfl dL_tests_161 ?_
                    refine v_lload C 2 rfl dL_tests_163 ?_
                    refine v_iload C 1 rfl dL_tests_165 ?_
                    refine v_i2l (v := ((rC s k q) : Int32).toInt64) C dL_tests_167 rfl ?_
                    refine v_ladd C dL_tests_168 (v_eql (y := ((oV s (rB s k) q) + (Int32.toInt64 (rC s k q)))) (rfl) ?_)
                    refine v_iload C 0 rfl dL_tests_169 ?_
                    refine v_i2l (v := ((lmA (rL s k) q) : Int32).toInt64) C dL_tests_171 rfl ?_
                    refine v_callS (rest := []) C (c_L_kept l hl G (oV s (rT s k) q) ((oV s (rB s k) q) + (Int32.toInt64 (rC s k q))) (Int32.toInt64 (lmA (rL s k) q)) h2) S_L_144 rfl rfl (Nat.le_of_ble_eq_true rfl) ⟨Nat.le_of_ble_eq_true rfl, Nat.le_of_ble_eq_true rfl⟩ ⟨by show 180 * k + 20 * q + 0 + 0 + 0 + 0 + 0 ≤ 600; omega, by show 3600 * k + 400 * q + 0 + 0 + 0 + 0 + 0 ≤ 12000; omega⟩ dL_tests_172 (fun i65 h65 q65 => ?_)
                    obtain ⟨e65, rfl⟩ := q65
                    by_cases c65 : 0 < ((oV s (rB s k) q) + (Int32.toInt64 (rC s k q))) ∧ 100 * (oV s (rT s k) q) ≤ (Int32.toInt64 (lmA (rL s k) q)) * ((oV s (rB s k) q) + (Int32.toInt64 (rC s k q)))
                    · rw [zb_t c65] at e65; subst e65
                      refine v_if_eq (tgt := 182) C dL_tests_175 (by decide) (fun c66 => absurd c66 (by decide)) (fun c66 => ?_)
                      refine v_iconst (v := 2) C dL_tests_178 (by decide) ?_
                      refine v_goto (tgt := 201) C dL_tests_179 (by decide) ?_
                      refine v_eqi (y := nI (vState s k q)) ((show (2 : Int32) = nI 2 by decide).trans (congrArg nI (vs_2 hnd (vs_k0 c57) c65)).symm) ?_
                      refine v_lvp [0, 1, 2, 3, 4, 5, 6, 7, 8, 9, 10, 11, 12, 13] rfl ?_
                      exact M201
                    · rw [zb_f c65] at e65; subst e65
                      refine v_if_eq (tgt := 182) C dL_tests_175 (by decide) (fun c67 => ?_) (fun c67 => absurd c67 (by decide))
                      refine v_aload_n C 9 rfl dL_tests_182 rfl ?_
                      refine v_iload C 4 rfl dL_tests_183 ?_
                      refine v_bipush (v := 22) C dL_tests_185 (by decide) ?_
                      refine v_iadd C dL_tests_187 (v_eqi (nI_adk (32 * k) 22 (by decide)) ?_)
                      refine v_iload C 5 rfl dL_tests_188 ?_
                      refine v_iadd C dL_tests_190 (v_eqi (nI_add ((32 * k) + 22) q) ?_)
                      refine v_iald C lw2.1.2.2.2.2.1 (vpin (show 32 * k + 22 + q < 64 by omega) (by decide)) dL_tests_191 (v_eqi (y := (b01 (rV s k q))) ((congrArg B (nI_clamp (show 32 * k + 22 + q < 2 ^ 31 by omega))).trans (hEc q hq9).2) ?_)
                      refine v_iconst (v := 1) C dL_tests_192 (by decide) ?_
                      refine v_icmp_ne (tgt := 200) C dL_tests_193 (by decide) (fun c70 => ?_) (fun c70 => ?_)
                      · refine v_iconst (v := 4) C dL_tests_200 (by decide) ?_
                        refine v_eqi (y := nI (vState s k q)) ((show (4 : Int32) = nI 4 by decide).trans (congrArg nI (vs_4 hnd (vs_k0 c57) c65 (fun z => c70 (b01_1.mpr z)))).symm) ?_
                        refine v_lvp [0, 1, 2, 3, 4, 5, 6, 7, 8, 9, 10, 11, 12, 13] rfl ?_
                        exact M201
                      · refine v_iconst (v := 3) C dL_tests_196 (by decide) ?_
                        refine v_goto (tgt := 201) C dL_tests_197 (by decide) ?_
                        refine v_eqi (y := nI (vState s k q)) ((show (3 : Int32) = nI 3 by decide).trans (congrArg nI (vs_3 hnd (vs_k0 c57) c65 (b01_1.mp c70))).symm) ?_
                        refine v_lvp [0, 1, 2, 3, 4, 5, 6, 7, 8, 9, 10, 11, 12, 13] rfl ?_
                        exact M201
              refine v_iload C 0 rfl dL_tests_85 ?_
              refine v_if_lt (tgt := 123) C dL_tests_87 (by decide) (fun c71 => ?_) (fun c71 => ?_)
              · have c71 := (wth_m1 hlw).mp c71
                refine v_iconst (v := 1) C dL_tests_123 (by decide) ?_
                refine v_goto (tgt := 128) C dL_tests_124 (by decide) ?_
                refine v_istore C [(16, .int 1), (15, .int (lmA (rL s k) q)), (14, .int (rC s k q)), (12, .long (oV s (rB s k) q)), (10, .long (oV s (rT s k) q)), (9, .int (nI (32 * k))), (8, .int (nI q)), (7, .int (nI k)), (6, .int (nI (bk s 0 9 k + cnt (fun q => isB s k (0 + q)) q))), (0, .ref x), (1, .ref (ad 4)), (2, .int (nI (rN s))), (3, .ref (ad 0)), (4, .ref (ad 1)), (5, .ref (ad 2))] rfl (by decide) dL_tests_128 ?_
                refine v_iload C 0 rfl dL_tests_130 ?_
                refine v_if_eq (tgt := 139) C dL_tests_132 (by decide) (fun c72 => absurd c72 (by decide)) (fun c72 => ?_)
                refine v_iconst (v := 0) C dL_tests_135 (by decide) ?_
                refine v_goto (tgt := 201) C dL_tests_136 (by decide) ?_
                refine v_eqi (y := nI (vState s k q)) ((show (0 : Int32) = nI 0 by decide).trans (congrArg nI (vs_d (Or.inr c71))).symm) ?_
                refine v_lvp [1, 2, 3, 4, 5, 6, 7, 8, 9, 10, 11, 12, 13, 14] rfl ?_
                exact M201
              · have c71 := (not_congr (wth_m1 hlw)).mp c71
                refine v_aload_n C 9 rfl dL_tests_90 rfl ?_
                refine v_iload C 4 rfl dL_tests_91 ?_
                refine v_iconst (v := 2) C dL_tests_93 (by decide) ?_
                refine v_iadd C dL_tests_94 (v_eqi (nI_adk (32 * k) 2 (by decide)) ?_)
                refine v_iald C lw2.1.2.2.2.2.1 (vpin (show 32 * k + 2 < 64 by omega) (by decide)) dL_tests_95 (v_eqi (y := (rW s k)) ((congrArg B (nI_clamp (show 32 * k + 2 < 2 ^ 31 by omega))).trans e2) ?_)
                refine v_if_lt (tgt := 127) C dL_tests_96 (by decide) (fun c74 => ?_) (fun c74 => ?_)
                · refine v_iconst (v := 0) C dL_tests_127 (by decide) ?_
                  refine v_istore C [(16, .int 0), (15, .int (lmA (rL s k) q)), (14, .int (rC s k q)), (12, .long (oV s (rB s k) q)), (10, .long (oV s (rT s k) q)), (9, .int (nI (32 * k))), (8, .int (nI q)), (7, .int (nI k)), (6, .int (nI (bk s 0 9 k + cnt (fun q => isB s k (0 + q)) q))), (0, .ref x), (1, .ref (ad 4)), (2, .int (nI (rN s))), (3, .ref (ad 0)), (4, .ref (ad 1)), (5, .ref (ad 2))] rfl (by decide) dL_tests_128 ?_
                  refine v_iload C 0 rfl dL_tests_130 ?_
                  refine v_if_eq (tgt := 139) C dL_tests_132 (by decide) (fun c75 => ?_) (fun c75 => absurd c75 (by decide))
                  refine v_lvp [1, 2, 3, 4, 5, 6, 7, 8, 9, 10, 11, 12, 13, 14] rfl ?_
                  exact M139 (fun z => z.elim (fun y => y.1 (rW_neg hrW c74)) c71)
                · obtain ⟨w, hw6, ew⟩ := rW_pos hrW c74
                  refine v_aload C 12 rfl dL_tests_99 ?_
                  refine v_bipush (v := 10) C dL_tests_101 (by decide) ?_
                  refine v_aload_n C 9 rfl dL_tests_103 rfl ?_
                  refine v_iload C 4 rfl dL_tests_104 ?_
                  refine v_iconst (v := 2) C dL_tests_106 (by decide) ?_
                  refine v_iadd C dL_tests_107 (v_eqi (nI_adk (32 * k) 2 (by decide)) ?_)
                  refine v_iald C lw2.1.2.2.2.2.1 (vpin (show 32 * k + 2 < 64 by omega) (by decide)) dL_tests_108 (v_eqi (y := (nI w)) ((congrArg B (nI_clamp (show 32 * k + 2 < 2 ^ 31 by omega))).trans (e2.trans ew)) ?_)
                  refine v_imul C dL_tests_109 (v_eqi (nI_kml w 10 (by decide)) ?_)
                  refine v_iload C 5 rfl dL_tests_110 ?_
                  refine v_iadd C dL_tests_112 (v_eqi (nI_add (10 * w) q) ?_)
                  refine v_iald C lw2.1.2.1 (vpin (show 10 * w + q < 60 by omega) (by decide)) dL_tests_113 (v_eqi (y := (oA s w q)) ((congrArg A (nI_clamp (show 10 * w + q < 2 ^ 31 by omega))).trans (he.2.2.2.1 w q hw6 hq9)) ?_)
                  refine v_aload_n C 9 rfl dL_tests_114 rfl ?_
                  refine v_iload C 4 rfl dL_tests_115 ?_
                  refine v_iconst (v := 3) C dL_tests_117 (by decide) ?_
                  refine v_iadd C dL_tests_118 (v_eqi (nI_adk (32 * k) 3 (by decide)) ?_)
                  refine v_iald C lw2.1.2.2.2.2.1 (vpin (show 32 * k + 3 < 64 by omega) (by decide)) dL_tests_119 (v_eqi (y := (rE s k)) ((congrArg B (nI_clamp (show 32 * k + 3 < 2 ^ 31 by omega))).trans hE3) ?_)
                  refine v_icmp_ge (tgt := 127) C dL_tests_120 (by decide) (fun c80 => ?_) (fun c80 => ?_)
                  · refine v_iconst (v := 0) C dL_tests_127 (by decide) ?_
                    refine v_istore C [(16, .int 0), (15, .int (lmA (rL s k) q)), (14, .int (rC s k q)), (12, .long (oV s (rB s k) q)), (10, .long (oV s (rT s k) q)), (9, .int (nI (32 * k))), (8, .int (nI q)), (7, .int (nI k)), (6, .int (nI (bk s 0 9 k + cnt (fun q => isB s k (0 + q)) q))), (0, .ref x), (1, .ref (ad 4)), (2, .int (nI (rN s))), (3, .ref (ad 0)), (4, .ref (ad 1)), (5, .ref (ad 2))] rfl (by decide) dL_tests_128 ?_
                    refine v_iload C 0 rfl dL_tests_130 ?_
                    refine v_if_eq (tgt := 139) C dL_tests_132 (by decide) (fun c81 => ?_) (fun c81 => absurd c81 (by decide))
                    refine v_lvp [1, 2, 3, 4, 5, 6, 7, 8, 9, 10, 11, 12, 13, 14] rfl ?_
                    exact M139 (fun z => z.elim (dz_no hw6 ew c80) c71)
                  · refine v_iconst (v := 1) C dL_tests_123 (by decide) ?_
                    refine v_goto (tgt := 128) C dL_tests_124 (by decide) ?_
                    refine v_istore C [(16, .int 1), (15, .int (lmA (rL s k) q)), (14, .int (rC s k q)), (12, .long (oV s (rB s k) q)), (10, .long (oV s (rT s k) q)), (9, .int (nI (32 * k))), (8, .int (nI q)), (7, .int (nI k)), (6, .int (nI (bk s 0 9 k + cnt (fun q => isB s k (0 + q)) q))), (0, .ref x), (1, .ref (ad 4)), (2, .int (nI (rN s))), (3, .ref (ad 0)), (4, .ref (ad 1)), (5, .ref (ad 2))] rfl (by decide) dL_tests_128 ?_
                    refine v_iload C 0 rfl dL_tests_130 ?_
                    refine v_if_eq (tgt := 139) C dL_tests_132 (by decide) (fun c82 => absurd c82 (by decide)) (fun c82 => ?_)
                    refine v_iconst (v := 0) C dL_tests_135 (by decide) ?_
                    refine v_goto (tgt := 201) C dL_tests_136 (by decide) ?_
                    refine v_eqi (y := nI (vState s k q)) ((show (0 : Int32) = nI 0 by decide).trans (congrArg nI (vs_d (Or.inl (dz_yes hw6 ew c80)))).symm) ?_
                    refine v_lvp [1, 2, 3, 4, 5, 6, 7, 8, 9, 10, 11, 12, 13, 14] rfl ?_
                    exact M201
        refine v_lvp [0, 1, 2, 3, 4, 5, 6, 7, 8] rfl ?_
        refine v_widen (c2 := 180 * k + 20 * 0) (s2 := 3600 * k + 400 * 0) (by omega) (by omega) ?_
        exact L17 10 0 g2 h2 (by omega) xi2 fr2 lw2 (by omega)
  refine v_lvp [0, 1, 2, 3, 4, 5, 6, 7] rfl ?_
  exact L1 (rN s + 1) 0 g h (Nat.zero_le _) hi fr0 lw (by omega)

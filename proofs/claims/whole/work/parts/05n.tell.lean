set_option maxHeartbeats 4000000 in
set_option maxRecDepth 100000 in
theorem c_X5_tells (l : Launch) (hl : l.stackTraces = false) (G : zG) (m : Nat) (ad : Nat → Nat) (ns : Nat → Nat) (na : Nat → Nat → Nat) (ia : Nat → Nat → Int32) (la : Nat → Nat → Int64) (h0 : zH) (s : ZS) (h : zH) (hm : MR G h0 h m ad ns na ia la) (hs : MS s ns na ia la) (hw : WFs s) : zMet eV l yX5_tells cX5_tells 4 none 14 0 0 G [.ref m] h (fun _ h2 => ∃ w u, MR G h0 h2 m ad ns na ia (up2 (up2 la 13 w) 12 u) ∧ ∀ t z, t < oN s → z < 20 → u (20 * t + z) = oV s t z) := by
  refine con_of hl RX5 rfl (by decide +kernel) [(0, .ref m)] rfl (Nat.le_of_ble_eq_true rfl) ?_
  intro zp ze zs zm zargs zbelow zmeth zc C hr hin Q hQ
  have e7 : ns 7 = oN s := hs.2.2.1.1
  have hw7 : ns 7 ≤ 10 := by rw [e7]; exact hw.2.2.1.1
  refine v_iconst (v := 0) C dX5_tells_0 (by decide) ?_
  refine v_istore_n C [(1, .int 0), (0, .ref m)] rfl (by decide) dX5_tells_1 rfl ?_
  have L1 : ∀ (d : Nat) (t : Nat) (w u : Nat → Int64) (h2 : zH), (t ≤ oN s) → (MR G h0 h2 m ad ns na ia (up2 (up2 la 13 w) 12 u)) → (tlD s u t 0) → (oN s + 1 ≤ t + d) → V zp l ze (rmm 14 0 0) zs zm zargs zbelow zmeth zc G 4 Q h2 (0) (0) 2 [(1, .int (nI t)), (0, .ref m)] [] := by
    intro d
    induction d with
    | zero =>
      intro t w u h2 ht hm2 ht2 hd
      exact absurd hd (by omega)
    | succ d ih1 =>
      intro t w u h2 ht hm2 ht2 hd
      refine v_iload_n C 0 rfl dX5_tells_2 rfl ?_
      refine v_aload_n C 1 rfl dX5_tells_3 rfl ?_
      refine v_get (v := .int (nI (ns 7))) C F_X5_93 hm2.1 rfl dX5_tells_4 ?_
      refine v_icmp_ge (tgt := 85) C dX5_tells_7 (by decide) (fun c2 => ?_) (fun c2 => ?_)
      · have c2 := (nn_ge (a := t) (b := (ns 7)) (by omega) (by omega)).mp c2
        exact v_vret C hQ hr (Nat.le_of_ble_eq_true rfl) (Nat.le_of_ble_eq_true rfl) dX5_tells_85 (by have hz : t = oN s := (by omega); rw [hz] at ht2; exact ⟨w, u, hm2, fun i z h1 h2 => ht2.1 i z h1 h2⟩)
      · have c2 := (nn_ge_f (a := t) (b := (ns 7)) (by omega) (by omega)).mp c2
        refine v_iconst (v := 0) C dX5_tells_10 (by decide) ?_
        refine v_istore_n C [(2, .int 0), (1, .int (nI t)), (0, .ref m)] rfl (by decide) dX5_tells_11 rfl ?_
        have L3 : ∀ (d : Nat) (q : Nat) (w3 u3 : Nat → Int64) (h3 : zH), (q ≤ 20) → (MR G h0 h3 m ad ns na ia (up2 (up2 la 13 w3) 12 u3)) → (tlD s u3 t q) → (21 ≤ q + d) → V zp l ze (rmm 14 0 0) zs zm zargs zbelow zmeth zc G 4 Q h3 (0) (0) 12 [(2, .int (nI q)), (1, .int (nI t)), (0, .ref m)] [] := by
          intro d
          induction d with
          | zero =>
            intro q w3 u3 h3 hq hm3 ht3 hd
            exact absurd hd (by omega)
          | succ d ih3 =>
            intro q w3 u3 h3 hq hm3 ht3 hd
            refine v_iload_n C 0 rfl dX5_tells_12 rfl ?_
            refine v_bipush (v := 20) C dX5_tells_13 (by decide) ?_
            refine v_icmp_ge (tgt := 79) C dX5_tells_15 (by decide) (fun c4 => ?_) (fun c4 => ?_)
            · have c4 := (nk_ge (a := q) 20 (by decide) (by omega) (by decide)).mp c4
              refine v_iinc C 1 [(1, .int (nI (t + 1))), (2, .int (nI q)), (0, .ref m)] rfl (nI_inc t 1 (by decide)) rfl (by decide) dX5_tells_79 ?_
              refine v_goto (tgt := 2) C dX5_tells_82 (by decide) ?_
              refine v_lvp [0, 2] rfl ?_
              have hq20 : q = 20 := by omega
              rw [hq20] at ht3
              exact ih1 (t + 1) w3 u3 h3 (by omega) hm3 ht3.next (by omega)
            · have c4 := (nk_ge_f (a := q) 20 (by decide) (by omega) (by decide)).mp c4
              have htn : t < oN s := by omega
              rcases def_some hs hw htn (show q < 20 by omega) with ⟨f, hfd, hfl, hf1, hf63, hftk, hfw, hfL, hfg⟩ | ⟨hfn, hf0⟩
              · refine v_aload_n C 2 rfl dX5_tells_18 rfl ?_
                refine v_get (v := .ref (ad 9)) C F_X5_28 hm3.1 rfl dX5_tells_19 ?_
                refine v_bipush (v := 20) C dX5_tells_22 (by decide) ?_
                refine v_iload_n C 1 rfl dX5_tells_24 rfl ?_
                refine v_imul C dX5_tells_25 (v_eqi (nI_kml t 20 (by decide)) ?_)
                refine v_iload_n C 0 rfl dX5_tells_26 rfl ?_
                refine v_iadd C dX5_tells_27 (v_eqi (nI_add (20 * t) q) ?_)
                refine v_iald C (hm3.2.1 9 rfl) (vpin (show ((20 * t) + q) < 200 by omega) (by decide)) dX5_tells_28 (v_eqi (y := nI ((na 9) ((20 * t) + q))) (congrArg (fun j => nI ((na 9) j)) (nI_clamp (show ((20 * t) + q) < 2 ^ 31 by omega))) ?_)
                refine v_if_le (tgt := 73) C dX5_tells_29 (by decide) (fun c8 => absurd ((nk_le (a := na 9 (20 * t + q)) 0 (by decide) (by omega) (by decide)).mp c8) (by omega)) (fun c8 => ?_)
                have c8 := (nk_le_f (a := ((na 9) ((20 * t) + q))) 0 (by decide) (by omega) (by decide)).mp c8
                refine v_aload_n C 2 rfl dX5_tells_32 rfl ?_
                refine v_bipush (v := 20) C dX5_tells_33 (by decide) ?_
                refine v_iload_n C 1 rfl dX5_tells_35 rfl ?_
                refine v_imul C dX5_tells_36 (v_eqi (nI_kml t 20 (by decide)) ?_)
                refine v_iload_n C 0 rfl dX5_tells_37 rfl ?_
                refine v_iadd C dX5_tells_38 (v_eqi (nI_add (20 * t) q) ?_)
                have hVx : ∀ jj, jj < f.length → (f.getD jj (0, 0)).1 = 6 → ∀ z, z < 20 → u3 (20 * (f.getD jj (0, 0)).2 + z) = tlV s t (f.getD jj (0, 0)).2 z := fun jj h1 h2 z hz => ht3.1 _ z (gtk_lt hfg h1 h2) hz
                refine v_callV (rest := []) C (c_X5_works l hl G m ad ns na ia (up2 (up2 la 13 w3) 12 u3) h0 (20 * t + q) f (oAL s) (tlV s t) h3 hm3 (by omega) hfl hf63 hftk (by have e := hfw.rok (m := 6) (d := 0) (ts := []) (by omega) trivial; rw [List.append_nil] at e; exact e) (fun jj h1 => hfw.tokj h1) (fun n z h1 h2 => congrArg Int32.toInt64 (hs.1 n z h1 h2)) hVx) K_X5_147 hm3.1 rfl rfl (Nat.le_of_ble_eq_true rfl) ⟨Nat.le_of_ble_eq_true rfl, Nat.le_of_ble_eq_true rfl⟩ ⟨Nat.le_of_ble_eq_true rfl, Nat.le_of_ble_eq_true rfl⟩ dX5_tells_39 (fun _ h11 q11 => ?_)
                obtain ⟨w4, hmw, hst4⟩ := q11; rw [up2_sw] at hmw
                refine v_iload_n C 0 rfl dX5_tells_42 rfl ?_
                refine v_istore_n C [(3, .int (nI q)), (2, .int (nI q)), (1, .int (nI t)), (0, .ref m)] rfl (by decide) dX5_tells_43 rfl ?_
                have L12 : ∀ (d : Nat) (j : Nat) (u4 : Nat → Int64) (h4 : zH), (q ≤ j) → (j ≤ 20) → (MR G h0 h4 m ad ns na ia (up2 (up2 la 13 w4) 12 u4)) → (∀ z, q ≤ z → z < j → u4 (20 * t + z) = w4 z) → (∀ z, (z < 20 * t + q ∨ 20 * t + 20 ≤ z) → u4 z = u3 z) → (21 ≤ j + d) → V zp l ze (rmm 14 0 0) zs zm zargs zbelow zmeth zc G 4 Q h4 (0 + 0) (0 + 0) 44 [(3, .int (nI j)), (2, .int (nI q)), (1, .int (nI t)), (0, .ref m)] [] := by
                  intro d
                  induction d with
                  | zero =>
                    intro j u4 h4 hj1 hj2 hm4 hu1 hu2 hd
                    exact absurd hd (by omega)
                  | succ d ih12 =>
                    intro j u4 h4 hj1 hj2 hm4 hu1 hu2 hd
                    refine v_iload_n C 0 rfl dX5_tells_44 rfl ?_
                    refine v_bipush (v := 20) C dX5_tells_45 (by decide) ?_
                    refine v_icmp_ge (tgt := 73) C dX5_tells_47 (by decide) (fun c13 => ?_) (fun c13 => ?_)
                    · have c13 := (nk_ge (a := j) 20 (by decide) (by omega) (by decide)).mp c13
                      refine v_iinc C 1 [(2, .int (nI (q + 1))), (3, .int (nI j)), (1, .int (nI t)), (0, .ref m)] rfl (nI_inc q 1 (by decide)) rfl (by decide) dX5_tells_73 ?_
                      refine v_goto (tgt := 12) C dX5_tells_76 (by decide) ?_
                      refine v_lvp [0, 2, 3] rfl ?_
                      have hj20 : j = 20 := by omega
                      rw [hj20] at hu1
                      have hr4 : ∀ z, z < 20 → w4 z = rowOf (oAL s) (tlV s t) f z := fun z hz => by
                          have e := hst4
                          rw [hfw.ev] at e
                          have e2 := e.1 z hz
                          rw [show 20 * ([] : List (Nat → Int64)).length + z = z by simp] at e2; exact e2
                      exact ih3 (q + 1) w4 u4 h4 (by omega) hm4 (ht3.set (by omega) hfd (fun z h1 h2 => by rw [hu1 z h1 h2]; exact hr4 z h2) hu2) (by omega)
                    · have c13 := (nk_ge_f (a := j) 20 (by decide) (by omega) (by decide)).mp c13
                      refine v_aload_n C 3 rfl dX5_tells_50 rfl ?_
                      refine v_get (v := .ref (ad 12)) C F_X5_37 hm4.1 rfl dX5_tells_51 ?_
                      refine v_bipush (v := 20) C dX5_tells_54 (by decide) ?_
                      refine v_iload_n C 2 rfl dX5_tells_56 rfl ?_
                      refine v_imul C dX5_tells_57 (v_eqi (nI_kml t 20 (by decide)) ?_)
                      refine v_iload_n C 0 rfl dX5_tells_58 rfl ?_
                      refine v_iadd C dX5_tells_59 (v_eqi (nI_add (20 * t) j) ?_)
                      refine v_aload_n C 3 rfl dX5_tells_60 rfl ?_
                      refine v_get (v := .ref (ad 13)) C F_X5_41 hm4.1 rfl dX5_tells_61 ?_
                      refine v_iload_n C 0 rfl dX5_tells_64 rfl ?_
                      refine v_lald C (hm4.2.2.2.1 13 rfl) (vpin (show j < 200 by omega) (by decide)) dX5_tells_65 (v_eql (y := w4 j) (congrArg w4 (nI_clamp (show j < 2 ^ 31 by omega))) ?_)
                      refine v_last C (hm4.2.2.2.1 12 rfl) (vpin (show ((20 * t) + j) < 200 by omega) (by decide)) dX5_tells_66 (v_nw (fun h17 eh17 => ?_))
                      have hm17 := hm4.putL2 (k := 12) rfl (g := u4) (i := ((20 * t) + j)) (v := (w4 j)) (by omega) eh17
                      refine v_iinc C 0 [(3, .int (nI (j + 1))), (2, .int (nI q)), (1, .int (nI t)), (0, .ref m)] rfl (nI_inc j 1 (by decide)) rfl (by decide) dX5_tells_67 ?_
                      refine v_goto (tgt := 44) C dX5_tells_70 (by decide) ?_
                      refine v_lvp [0, 1, 2, 3] rfl ?_
                      have hmi := hm17; rw [up2_up2] at hmi
                      exact ih12 (j + 1) _ h17 (by omega) (by omega) hmi (fun z h1 h2 => by
                            by_cases y : z = j
                            · subst y; rw [up2_s]
                            · rw [up2_n (by omega)]; exact hu1 z h1 (by omega)) (fun z hz => by rw [up2_n (by omega)]; exact hu2 z hz) (by omega)
                refine v_lvp [0, 1, 2, 3] rfl ?_
                exact L12 21 q u3 h11 (by omega) (by omega) hmw (fun z h1 h2 => absurd h2 (by omega)) (fun _ _ => rfl) (by omega)
              · have hq1 : 1 ≤ q := by
                    cases q with
                    | zero => exact absurd hfn (hw.2.2.1.2.1 t htn).2.2.1
                    | succ q => omega
                refine v_aload_n C 2 rfl dX5_tells_18 rfl ?_
                refine v_get (v := .ref (ad 9)) C F_X5_28 hm3.1 rfl dX5_tells_19 ?_
                refine v_bipush (v := 20) C dX5_tells_22 (by decide) ?_
                refine v_iload_n C 1 rfl dX5_tells_24 rfl ?_
                refine v_imul C dX5_tells_25 (v_eqi (nI_kml t 20 (by decide)) ?_)
                refine v_iload_n C 0 rfl dX5_tells_26 rfl ?_
                refine v_iadd C dX5_tells_27 (v_eqi (nI_add (20 * t) q) ?_)
                refine v_iald C (hm3.2.1 9 rfl) (vpin (show ((20 * t) + q) < 200 by omega) (by decide)) dX5_tells_28 (v_eqi (y := nI ((na 9) ((20 * t) + q))) (congrArg (fun j => nI ((na 9) j)) (nI_clamp (show ((20 * t) + q) < 2 ^ 31 by omega))) ?_)
                refine v_if_le (tgt := 73) C dX5_tells_29 (by decide) (fun c21 => ?_) (fun c21 => absurd ((nk_le (a := na 9 (20 * t + q)) (y := 0) 0 (by decide) (by omega) (by decide)).mpr (by omega)) c21)
                have c21 := (nk_le (a := ((na 9) ((20 * t) + q))) 0 (by decide) (by omega) (by decide)).mp c21
                refine v_iinc C 0 [(2, .int (nI (q + 1))), (1, .int (nI t)), (0, .ref m)] rfl (nI_inc q 1 (by decide)) rfl (by decide) dX5_tells_73 ?_
                refine v_goto (tgt := 12) C dX5_tells_76 (by decide) ?_
                refine v_lvp [0, 1, 2] rfl ?_
                exact ih3 (q + 1) w3 u3 h3 (by omega) hm3 (ht3.skip hq1 hfn) (by omega)
        refine v_lvp [0, 1, 2] rfl ?_
        exact L3 21 0 w u h2 (by decide) hm2 ht2 (by decide)
  refine v_lvp [0, 1] rfl ?_
  have hmz : MR G h0 h m ad ns na ia (up2 (up2 la 13 (la 13)) 12 (la 12)) := by rw [up2_id12]; exact hm
  exact L1 (oN s + 1) 0 (la 13) (la 12) h (Nat.zero_le _) hmz ⟨fun i z hi _ => absurd hi (by omega), fun q => absurd q (by omega)⟩ (by omega)

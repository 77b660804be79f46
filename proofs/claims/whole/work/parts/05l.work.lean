theorem up2_id13 {n : Nat → Nat → Int64} : up2 n 13 (n 13) = n := by
  funext j
  by_cases q : j = 13
  · subst q; rw [up2_s]
  · rw [up2_n q]
theorem up2_up2 {α : Type} {f : Nat → α} {k : Nat} {a b : α} : up2 (up2 f k a) k b = up2 f k b := by
  funext j
  by_cases q : j = k
  · subst q; rw [up2_s, up2_s]
  · rw [up2_n q, up2_n q, up2_n q]
theorem up2_13 {n : Nat → Nat → Int64} {a b : Nat → Int64} : up2 (up2 n 13 a) 13 b = up2 n 13 b := up2_up2
theorem syr_stop_or {r : Nat → Int64} {q a : Nat} (h : a = 4 ∨ (q < a ∧ a ≤ 4)) : syr r q 4 = syr r q a := by
  rcases h with rfl | h
  · rfl
  · exact syr_stop h.1 h.2
set_option maxHeartbeats 4000000 in
set_option maxRecDepth 100000 in
theorem c_X5_works (l : Launch) (hl : l.stackTraces = false) (G : zG) (m : Nat) (ad : Nat → Nat) (ns : Nat → Nat) (na : Nat → Nat → Nat) (ia : Nat → Nat → Int32) (la : Nat → Nat → Int64) (h0 : zH) (D : Nat) (T : List Tok) (cA cV : Nat → Nat → Int64) (h : zH) (hm : MR G h0 h m ad ns na ia la) (hD : D < 200) (hTl : na 9 D = T.length) (hT6 : T.length ≤ 63) (htk : tkAt (na 10) (na 11) (64 * D) T) (hrok : rOK 6 T 0) (hbound : ∀ j, j < T.length → (T.getD j (0, 0)).1 ≤ 8 ∧ (T.getD j (0, 0)).2 ≤ 1000000 ∧ ((T.getD j (0, 0)).1 = 4 → (T.getD j (0, 0)).2 < 6) ∧ ((T.getD j (0, 0)).1 = 6 → (T.getD j (0, 0)).2 < 10) ∧ ((T.getD j (0, 0)).1 = 7 → (T.getD j (0, 0)).2 ≤ 100)) (hA : ∀ n q, n < 6 → q < 20 → (ia 1 (20 * n + q)).toInt64 = cA n q) (hV : ∀ j, j < T.length → (T.getD j (0, 0)).1 = 6 → ∀ q, q < 20 → la 12 (20 * (T.getD j (0, 0)).2 + q) = cV (T.getD j (0, 0)).2 q) : zMet eV l yX5_works cX5_works 9 none 13 0 0 G [.ref m, .int (nI D)] h (fun _ h2 => ∃ w, MR G h0 h2 m ad ns na ia (up2 la 13 w) ∧ stkAt w (evs cA cV T [])) := by
  refine con_of hl RX5 rfl (by decide +kernel) [(0, .ref m), (1, .int (nI D))] rfl (Nat.le_of_ble_eq_true rfl) ?_
  intro zp ze zs zm zargs zbelow zmeth zc C hr hin Q hQ
  refine v_iconst (v := 0) C dX5_works_0 (by decide) ?_
  refine v_istore_n C [(2, .int 0), (0, .ref m), (1, .int (nI D))] rfl (by decide) dX5_works_1 rfl ?_
  refine v_iconst (v := 0) C dX5_works_2 (by decide) ?_
  refine v_istore_n C [(3, .int 0), (2, .int 0), (0, .ref m), (1, .int (nI D))] rfl (by decide) dX5_works_3 rfl ?_
  have L1 : ∀ (d : Nat) (k : Nat) (w : Nat → Int64) (h2 : zH), (k ≤ T.length) → (MR G h0 h2 m ad ns na ia (up2 la 13 w)) → (stkAt w (evs cA cV (T.take k) [])) → (rOK 6 (T.drop k) (evs cA cV (T.take k) []).length) → ((evs cA cV (T.take k) []).length ≤ 6) → (T.length + 1 ≤ k + d) → V zp l ze (rmm 13 0 0) zs zm zargs zbelow zmeth zc G 9 Q h2 (0) (0) 4 [(3, .int (nI k)), (2, .int (nI (evs cA cV (T.take k) []).length)), (1, .int (nI D)), (0, .ref m)] [] := by
    intro d
    induction d with
    | zero =>
      intro k w h2 hk hm2 hst hro hS6 hd
      exact absurd hd (by omega)
    | succ d ih1 =>
      intro k w h2 hk hm2 hst hro hS6 hd
      refine v_iload_n C 0 rfl dX5_works_4 rfl ?_
      refine v_aload_n C 3 rfl dX5_works_5 rfl ?_
      refine v_get (v := .ref (ad 9)) C F_X5_28 hm2.1 rfl dX5_works_6 ?_
      refine v_iload_n C 2 rfl dX5_works_9 rfl ?_
      refine v_iald C (hm2.2.1 9 rfl) (vpin (show D < 200 by omega) (by decide)) dX5_works_10 (v_eqi (y := nI ((na 9) D)) (congrArg (fun j => nI ((na 9) j)) (nI_clamp (show D < 2 ^ 31 by omega))) ?_)
      refine v_icmp_ge (tgt := 266) C dX5_works_11 (by decide) (fun c2 => ?_) (fun c2 => ?_)
      · have c2 := (nn_ge (a := k) (b := ((na 9) D)) (by omega) (by omega)).mp c2
        exact v_vret C hQ hr (Nat.le_of_ble_eq_true rfl) (Nat.le_of_ble_eq_true rfl) dX5_works_266 (by have hz : k = T.length := (by omega); rw [hz, List.take_length] at hst; exact ⟨w, hm2, hst⟩)
      · have c2 := (nn_ge_f (a := k) (b := ((na 9) D)) (by omega) (by omega)).mp c2
        have hkl : k < T.length := by omega
        obtain ⟨hk1z, hk2z⟩ := htk k hkl
        have hbd := hbound k hkl
        refine v_aload_n C 3 rfl dX5_works_14 rfl ?_
        refine v_get (v := .ref (ad 10)) C F_X5_31 hm2.1 rfl dX5_works_15 ?_
        refine v_bipush (v := 64) C dX5_works_18 (by decide) ?_
        refine v_iload_n C 2 rfl dX5_works_20 rfl ?_
        refine v_imul C dX5_works_21 (v_eqi (nI_kml D 64 (by decide)) ?_)
        refine v_iload_n C 0 rfl dX5_works_22 rfl ?_
        refine v_iadd C dX5_works_23 (v_eqi (nI_add (64 * D) k) ?_)
        refine v_iald C (hm2.2.1 10 rfl) (vpin (show ((64 * D) + k) < 12800 by omega) (by decide)) dX5_works_24 (v_eqi (y := nI ((na 10) ((64 * D) + k))) (congrArg (fun j => nI ((na 10) j)) (nI_clamp (show ((64 * D) + k) < 2 ^ 31 by omega))) ?_)
        obtain ⟨kk, hkk⟩ : ∃ kk, kk = na 10 (64 * D + k) := ⟨_, rfl⟩
        rw [← hkk]
        have hk1 : kk = (T.getD k (0, 0)).1 := by rw [hkk, hk1z]
        have hkb : kk ≤ 8 := by rw [hk1]; exact hbd.1
        refine v_istore C [(4, .int (nI kk)), (3, .int (nI k)), (2, .int (nI (evs cA cV (T.take k) []).length)), (1, .int (nI D)), (0, .ref m)] rfl (by decide) dX5_works_25 ?_
        refine v_aload_n C 4 rfl dX5_works_27 rfl ?_
        refine v_get (v := .ref (ad 11)) C F_X5_34 hm2.1 rfl dX5_works_28 ?_
        refine v_bipush (v := 64) C dX5_works_31 (by decide) ?_
        refine v_iload_n C 3 rfl dX5_works_33 rfl ?_
        refine v_imul C dX5_works_34 (v_eqi (nI_kml D 64 (by decide)) ?_)
        refine v_iload_n C 1 rfl dX5_works_35 rfl ?_
        refine v_iadd C dX5_works_36 (v_eqi (nI_add (64 * D) k) ?_)
        refine v_iald C (hm2.2.1 11 rfl) (vpin (show ((64 * D) + k) < 12800 by omega) (by decide)) dX5_works_37 (v_eqi (y := nI ((na 11) ((64 * D) + k))) (congrArg (fun j => nI ((na 11) j)) (nI_clamp (show ((64 * D) + k) < 2 ^ 31 by omega))) ?_)
        obtain ⟨nn, hnn⟩ : ∃ nn, nn = na 11 (64 * D + k) := ⟨_, rfl⟩
        rw [← hnn]
        have hk2 : nn = (T.getD k (0, 0)).2 := by rw [hnn, hk2z]
        have hnb : nn ≤ 1000000 := by rw [hk2]; exact hbd.2.1
        refine v_istore C [(5, .int (nI nn)), (4, .int (nI kk)), (3, .int (nI k)), (2, .int (nI (evs cA cV (T.take k) []).length)), (1, .int (nI D)), (0, .ref m)] rfl (by decide) dX5_works_38 ?_
        refine v_iload_n C 3 rfl dX5_works_40 rfl ?_
        refine v_iload C 1 rfl dX5_works_41 ?_
        refine v_iconst (v := 4) C dX5_works_43 (by decide) ?_
        refine v_bipush (v := 6) C dX5_works_44 (by decide) ?_
        refine v_callS (rest := [.int (nI (evs cA cV (T.take k) []).length)]) C (c_X5_isIn l hl G  (nI kk) 4 6 h2 ) S_X5_89 rfl rfl (Nat.le_of_ble_eq_true rfl) ⟨Nat.le_of_ble_eq_true rfl, Nat.le_of_ble_eq_true rfl⟩ ⟨Nat.le_of_ble_eq_true rfl, Nat.le_of_ble_eq_true rfl⟩ dX5_works_46 (fun i7 h7 q7 => ?_)
        obtain ⟨e7, rfl⟩ := q7
        by_cases c7 : wth (nI kk) 4 6
        · rw [zb_t c7] at e7; subst e7
          have z46 := (wth_46 (by omega)).mp c7
          have hro2 := rok_l hro hkl (by rw [← hk1]; exact z46)
          have hro3 := hro2.1
          refine v_if_eq (tgt := 56) C dX5_works_49 (by decide) (fun c8 => absurd c8 (by decide)) (fun c8 => ?_)
          refine v_iconst (v := 1) C dX5_works_52 (by decide) ?_
          refine v_goto (tgt := 67) C dX5_works_53 (by decide) ?_
          refine v_iadd C dX5_works_67 (v_eqi (y := (nI ((evs cA cV (T.take k) []).length + 1))) (nI_adk ((evs cA cV (T.take k) []).length) 1 (by decide)) ?_)
          refine v_istore_n C [(2, .int (nI ((evs cA cV (T.take k) []).length + 1))), (5, .int (nI nn)), (4, .int (nI kk)), (3, .int (nI k)), (1, .int (nI D)), (0, .ref m)] rfl (by decide) dX5_works_68 rfl ?_
          refine v_bipush (v := 20) C dX5_works_69 (by decide) ?_
          refine v_iload_n C 0 rfl dX5_works_71 rfl ?_
          refine v_iconst (v := 1) C dX5_works_72 (by decide) ?_
          refine v_isub C dX5_works_73 (v_eqi (nI_sbk (a := ((evs cA cV (T.take k) []).length + 1)) 1 (by decide) (by omega)) ?_)
          refine v_imul C dX5_works_74 (v_eqi (nI_kml (((evs cA cV (T.take k) []).length + 1) - 1) 20 (by decide)) ?_)
          refine v_istore C [(6, .int (nI (20 * (((evs cA cV (T.take k) []).length + 1) - 1)))), (2, .int (nI ((evs cA cV (T.take k) []).length + 1))), (5, .int (nI nn)), (4, .int (nI kk)), (3, .int (nI k)), (1, .int (nI D)), (0, .ref m)] rfl (by decide) dX5_works_75 ?_
          refine v_bipush (v := 19) C dX5_works_77 (by decide) ?_
          refine v_istore C [(7, .int 19), (6, .int (nI (20 * (((evs cA cV (T.take k) []).length + 1) - 1)))), (2, .int (nI ((evs cA cV (T.take k) []).length + 1))), (5, .int (nI nn)), (4, .int (nI kk)), (3, .int (nI k)), (1, .int (nI D)), (0, .ref m)] rfl (by decide) dX5_works_79 ?_
          have hlf : ∀ z, z < 20 → lfV ia la kk nn z = if kk = 4 then cA nn z else if kk = 5 then lN64 nn else cV nn z := fun z hz => by
              unfold lfV
              by_cases q4 : kk = 4
              · rw [if_pos q4, if_pos q4]; exact hA nn z (by rw [hk2]; exact hbd.2.2.1 (by rw [← hk1]; exact q4)) hz
              · rw [if_neg q4, if_neg q4]
                by_cases q5 : kk = 5
                · rw [if_pos q5, if_pos q5]
                · rw [if_neg q5, if_neg q5, hk2]; exact hV k hkl (by rw [← hk1]; omega) z hz
          have hb4 : kk = 4 → nn < 6 := fun q => by rw [hk2]; exact hbd.2.2.1 (by rw [← hk1]; exact q)
          have hb6 : kk = 6 → nn < 10 := fun q => by rw [hk2]; exact hbd.2.2.2.1 (by rw [← hk1]; exact q)
          have L12 : ∀ (d : Nat) (c : Nat) (f : Nat → Int64) (h3 : zH), (c ≤ 20) → (MR G h0 h3 m ad ns na ia (up2 la 13 f)) → (inP f w (fun z => lfV ia la kk nn z) (20 * ((evs cA cV (T.take k) []).length + 1 - 1)) c) → (c + 1 ≤ d) → V zp l ze (rmm 13 0 0) zs zm zargs zbelow zmeth zc G 9 Q h3 (0 + 0) (0 + 0) 81 [(7, .int (gI c)), (6, .int (nI (20 * ((evs cA cV (T.take k) []).length + 1 - 1)))), (5, .int (nI nn)), (4, .int (nI kk)), (2, .int (nI ((evs cA cV (T.take k) []).length + 1))), (3, .int (nI k)), (1, .int (nI D)), (0, .ref m)] [] := by
            intro d
            induction d with
            | zero =>
              intro c f h3 hc hm3 hinp hd
              exact absurd hd (by omega)
            | succ d ih12 =>
              intro c f h3 hc hm3 hinp hd
              refine v_iload C 0 rfl dX5_works_81 ?_
              refine v_if_lt (tgt := 260) C dX5_works_83 (by decide) (fun c13 => ?_) (fun c13 => ?_)
              · have c13 := (gI_neg (c := c) (by omega)).mp c13
                refine v_iinc C 5 [(3, .int (nI (k + 1))), (7, .int (gI c)), (6, .int (nI (20 * ((evs cA cV (T.take k) []).length + 1 - 1)))), (5, .int (nI nn)), (4, .int (nI kk)), (2, .int (nI ((evs cA cV (T.take k) []).length + 1))), (1, .int (nI D)), (0, .ref m)] rfl (nI_inc k 1 (by decide)) rfl (by decide) dX5_works_260 ?_
                refine v_goto (tgt := 4) C dX5_works_263 (by decide) ?_
                refine v_lvp [0, 5, 6, 7] rfl ?_
                have hc0 : c = 0 := by omega
                subst hc0
                have hsev : evs cA cV (T.take (k + 1)) [] = sev cA cV kk nn (evs cA cV (T.take k) []) := by
                    rw [take_snoc hkl, evs_app]; show sev cA cV (T.getD k (0, 0)).1 (T.getD k (0, 0)).2 _ = _; rw [← hk1, ← hk2]
                have hst2 : stkAt f (evs cA cV (T.take (k + 1)) []) := by rw [hsev]; exact ev_leaf z46 hst (by rw [show (evs cA cV (T.take k) []).length + 1 - 1 = (evs cA cV (T.take k) []).length by omega] at hinp; exact hinp) hlf
                have hln : (evs cA cV (T.take (k + 1)) []).length = (evs cA cV (T.take k) []).length + 1 := by rw [hsev, sev_len, if_pos z46]
                rw [show (evs cA cV (T.take k) []).length + 1 = (evs cA cV (T.take (k + 1)) []).length from hln.symm]
                exact ih1 (k + 1) f h3 (by omega) hm3 hst2 (by rw [hln]; exact hro2.2) (by rw [hln]; omega) (by omega)
              · have c13 := (not_congr (gI_neg (c := c) (by omega))).mp c13
                obtain ⟨c2, rfl⟩ : ∃ c2, c = c2 + 1 := ⟨c - 1, by omega⟩
                rw [← gI_s c2]
                refine v_iload C 3 rfl dX5_works_86 ?_
                refine v_iconst (v := 4) C dX5_works_88 (by decide) ?_
                refine v_bipush (v := 6) C dX5_works_89 (by decide) ?_
                refine v_callS (rest := []) C (c_X5_isIn l hl G  (nI kk) 4 6 h3 ) S_X5_89 rfl rfl (Nat.le_of_ble_eq_true rfl) ⟨Nat.le_of_ble_eq_true rfl, Nat.le_of_ble_eq_true rfl⟩ ⟨Nat.le_of_ble_eq_true rfl, Nat.le_of_ble_eq_true rfl⟩ dX5_works_91 (fun i15 h15 q15 => ?_)
                obtain ⟨e15, rfl⟩ := q15
                have c15 : wth (nI kk) 4 6 := c7
                rw [zb_t c15] at e15; subst e15
                refine v_if_eq (tgt := 120) C dX5_works_94 (by decide) (fun c16 => absurd c16 (by decide)) (fun c16 => ?_)
                refine v_aload_n C 7 rfl dX5_works_97 rfl ?_
                refine v_get (v := .ref (ad 13)) C F_X5_41 hm3.1 rfl dX5_works_98 ?_
                refine v_iload C 1 rfl dX5_works_101 ?_
                refine v_iload C 0 rfl dX5_works_103 ?_
                refine v_iadd C dX5_works_105 (v_eqi (nI_add (20 * ((evs cA cV (T.take k) []).length + 1 - 1)) c2) ?_)
                refine v_aload_n C 7 rfl dX5_works_106 rfl ?_
                refine v_iload C 3 rfl dX5_works_107 ?_
                refine v_iload C 2 rfl dX5_works_109 ?_
                refine v_iload C 0 rfl dX5_works_111 ?_
                refine v_callV (rest := [.int (nI ((20 * ((evs cA cV (T.take k) []).length + 1 - 1)) + c2)), .ref (ad 13)]) C (c_X5_leaf l hl G m ad ns na ia (up2 la 13 f) h0 kk nn c2 h3 hm3 (by omega) z46 hb4 hnb hb6) K_X5_135 hm3.1 rfl rfl (Nat.le_of_ble_eq_true rfl) ⟨Nat.le_of_ble_eq_true rfl, Nat.le_of_ble_eq_true rfl⟩ ⟨Nat.le_of_ble_eq_true rfl, Nat.le_of_ble_eq_true rfl⟩ dX5_works_113 (fun l18 h18 q18 => ?_)
                obtain ⟨e18, rfl⟩ := q18; subst e18
                refine v_last C (hm3.2.2.2.1 13 rfl) (vpin (show ((20 * ((evs cA cV (T.take k) []).length + 1 - 1)) + c2) < 200 by omega) (by decide)) dX5_works_116 (v_nw (fun h19 eh19 => ?_))
                have hm19 := hm3.putL2 (k := 13) rfl (g := f) (i := ((20 * ((evs cA cV (T.take k) []).length + 1 - 1)) + c2)) (v := (lfV ia la kk nn c2)) (by omega) eh19
                refine v_goto (tgt := 254) C dX5_works_117 (by decide) ?_
                have hmv := hm19; rw [up2_13] at hmv
                refine v_iinc C 0 [(7, .int (gI c2)), (6, .int (nI (20 * ((evs cA cV (T.take k) []).length + 1 - 1)))), (5, .int (nI nn)), (4, .int (nI kk)), (2, .int (nI ((evs cA cV (T.take k) []).length + 1))), (3, .int (nI k)), (1, .int (nI D)), (0, .ref m)] rfl (gI_dec c2) rfl (by decide) dX5_works_254 ?_
                refine v_goto (tgt := 81) C dX5_works_257 (by decide) ?_
                refine v_lvp [0, 1, 2, 3, 4, 5, 6, 7] rfl ?_
                exact ih12 c2 _ h19 (by omega) hmv (hinp.step (by omega) rfl) (by omega)
          refine v_lvp [0, 1, 3, 4, 2, 5, 6, 7] rfl ?_
          rw [show (19 : Int32) = gI 20 by decide]
          exact L12 21 20 w h2 (by decide) hm2 inP.rf (by decide)
        · rw [zb_f c7] at e7; subst e7
          have z46n := (not_congr (wth_46 (by omega))).mp c7
          refine v_if_eq (tgt := 56) C dX5_works_49 (by decide) (fun c21 => ?_) (fun c21 => absurd c21 (by decide))
          refine v_iload C 1 rfl dX5_works_56 ?_
          refine v_iconst (v := 4) C dX5_works_58 (by decide) ?_
          refine v_icmp_ge (tgt := 66) C dX5_works_59 (by decide) (fun c22 => ?_) (fun c22 => ?_)
          · have c22 := (nk_ge (a := kk) 4 (by decide) (by omega) (by decide)).mp c22
            have z7 : 7 ≤ kk := by omega
            have hro2 := rok_o hro hkl (by rw [← hk1]; exact z7)
            have hro3 := hro2.1
            refine v_iconst (v := 0) C dX5_works_66 (by decide) ?_
            refine v_iadd C dX5_works_67 (v_eqi (y := (nI ((evs cA cV (T.take k) []).length))) (nI_a0 _) ?_)
            refine v_istore_n C [(2, .int (nI ((evs cA cV (T.take k) []).length))), (5, .int (nI nn)), (4, .int (nI kk)), (3, .int (nI k)), (1, .int (nI D)), (0, .ref m)] rfl (by decide) dX5_works_68 rfl ?_
            refine v_bipush (v := 20) C dX5_works_69 (by decide) ?_
            refine v_iload_n C 0 rfl dX5_works_71 rfl ?_
            refine v_iconst (v := 1) C dX5_works_72 (by decide) ?_
            refine v_isub C dX5_works_73 (v_eqi (nI_sbk (a := ((evs cA cV (T.take k) []).length)) 1 (by decide) (by omega)) ?_)
            refine v_imul C dX5_works_74 (v_eqi (nI_kml (((evs cA cV (T.take k) []).length) - 1) 20 (by decide)) ?_)
            refine v_istore C [(6, .int (nI (20 * (((evs cA cV (T.take k) []).length) - 1)))), (2, .int (nI ((evs cA cV (T.take k) []).length))), (5, .int (nI nn)), (4, .int (nI kk)), (3, .int (nI k)), (1, .int (nI D)), (0, .ref m)] rfl (by decide) dX5_works_75 ?_
            refine v_bipush (v := 19) C dX5_works_77 (by decide) ?_
            refine v_istore C [(7, .int 19), (6, .int (nI (20 * (((evs cA cV (T.take k) []).length) - 1)))), (2, .int (nI ((evs cA cV (T.take k) []).length))), (5, .int (nI nn)), (4, .int (nI kk)), (3, .int (nI k)), (1, .int (nI D)), (0, .ref m)] rfl (by decide) dX5_works_79 ?_
            by_cases k78 : kk = 7
            · have L26 : ∀ (d : Nat) (c : Nat) (f : Nat → Int64) (h3 : zH), (c ≤ 20) → (MR G h0 h3 m ad ns na ia (up2 la 13 f)) → (inP f w (fun z => zfd (w (20 * ((evs cA cV (T.take k) []).length - 1) + z) * lN64 nn)) (20 * ((evs cA cV (T.take k) []).length - 1)) c) → (c + 1 ≤ d) → V zp l ze (rmm 13 0 0) zs zm zargs zbelow zmeth zc G 9 Q h3 (0 + 0) (0 + 0) 81 [(7, .int (gI c)), (6, .int (nI (20 * ((evs cA cV (T.take k) []).length - 1)))), (5, .int (nI nn)), (4, .int (nI kk)), (2, .int (nI ((evs cA cV (T.take k) []).length))), (3, .int (nI k)), (1, .int (nI D)), (0, .ref m)] [] := by
                intro d
                induction d with
                | zero =>
                  intro c f h3 hc hm3 hinp hd
                  exact absurd hd (by omega)
                | succ d ih26 =>
                  intro c f h3 hc hm3 hinp hd
                  refine v_iload C 0 rfl dX5_works_81 ?_
                  refine v_if_lt (tgt := 260) C dX5_works_83 (by decide) (fun c27 => ?_) (fun c27 => ?_)
                  · have c27 := (gI_neg (c := c) (by omega)).mp c27
                    refine v_iinc C 5 [(3, .int (nI (k + 1))), (7, .int (gI c)), (6, .int (nI (20 * ((evs cA cV (T.take k) []).length - 1)))), (5, .int (nI nn)), (4, .int (nI kk)), (2, .int (nI ((evs cA cV (T.take k) []).length))), (1, .int (nI D)), (0, .ref m)] rfl (nI_inc k 1 (by decide)) rfl (by decide) dX5_works_260 ?_
                    refine v_goto (tgt := 4) C dX5_works_263 (by decide) ?_
                    refine v_lvp [0, 5, 6, 7] rfl ?_
                    have hc0 : c = 0 := by omega
                    subst hc0
                    have hsev : evs cA cV (T.take (k + 1)) [] = sev cA cV kk nn (evs cA cV (T.take k) []) := by
                        rw [take_snoc hkl, evs_app]; show sev cA cV (T.getD k (0, 0)).1 (T.getD k (0, 0)).2 _ = _; rw [← hk1, ← hk2]
                    have hst2 : stkAt f (evs cA cV (T.take (k + 1)) []) := by rw [hsev, k78]; exact ev_share hro2.1 hst hinp
                    have hln : (evs cA cV (T.take (k + 1)) []).length = (evs cA cV (T.take k) []).length := by rw [hsev, sev_len, if_neg (by omega), if_pos (by omega)]; omega
                    rw [show (evs cA cV (T.take k) []).length = (evs cA cV (T.take (k + 1)) []).length from hln.symm]
                    exact ih1 (k + 1) f h3 (by omega) hm3 hst2 (by rw [hln]; exact hro2.2) (by rw [hln]; omega) (by omega)
                  · have c27 := (not_congr (gI_neg (c := c) (by omega))).mp c27
                    obtain ⟨c2, rfl⟩ : ∃ c2, c = c2 + 1 := ⟨c - 1, by omega⟩
                    rw [← gI_s c2]
                    refine v_iload C 3 rfl dX5_works_86 ?_
                    refine v_iconst (v := 4) C dX5_works_88 (by decide) ?_
                    refine v_bipush (v := 6) C dX5_works_89 (by decide) ?_
                    refine v_callS (rest := []) C (c_X5_isIn l hl G  (nI kk) 4 6 h3 ) S_X5_89 rfl rfl (Nat.le_of_ble_eq_true rfl) ⟨Nat.le_of_ble_eq_true rfl, Nat.le_of_ble_eq_true rfl⟩ ⟨Nat.le_of_ble_eq_true rfl, Nat.le_of_ble_eq_true rfl⟩ dX5_works_91 (fun i29 h29 q29 => ?_)
                    obtain ⟨e29, rfl⟩ := q29
                    have c29 : ¬ (wth (nI kk) 4 6) := c7
                    rw [zb_f c29] at e29; subst e29
                    refine v_if_eq (tgt := 120) C dX5_works_94 (by decide) (fun c30 => ?_) (fun c30 => absurd c30 (by decide))
                    refine v_iload C 3 rfl dX5_works_120 ?_
                    refine v_iconst (v := 4) C dX5_works_122 (by decide) ?_
                    refine v_icmp_ge (tgt := 167) C dX5_works_123 (by decide) (fun c31 => ?_) (fun c31 => absurd ((nk_ge (a := kk) (y := 4) 4 (by decide) (by omega) (by decide)).mpr (by omega)) c31)
                    have c31 := (nk_ge (a := kk) 4 (by decide) (by omega) (by decide)).mp c31
                    refine v_iload C 3 rfl dX5_works_167 ?_
                    refine v_bipush (v := 7) C dX5_works_169 (by decide) ?_
                    refine v_icmp_ne (tgt := 206) C dX5_works_171 (by decide) (fun c32 => absurd ((nk_ne (a := kk) 7 (by decide) (by omega) (by decide)).mp c32) (by omega)) (fun c32 => ?_)
                    have c32 := (nk_ne_f (a := kk) 7 (by decide) (by omega) (by decide)).mp c32
                    refine v_aload_n C 7 rfl dX5_works_174 rfl ?_
                    refine v_get (v := .ref (ad 13)) C F_X5_41 hm3.1 rfl dX5_works_175 ?_
                    refine v_iload C 1 rfl dX5_works_178 ?_
                    refine v_iload C 0 rfl dX5_works_180 ?_
                    refine v_iadd C dX5_works_182 (v_eqi (nI_add (20 * ((evs cA cV (T.take k) []).length - 1)) c2) ?_)
                    refine v_aload_n C 7 rfl dX5_works_183 rfl ?_
                    refine v_get (v := .ref (ad 13)) C F_X5_41 hm3.1 rfl dX5_works_184 ?_
                    refine v_iload C 1 rfl dX5_works_187 ?_
                    refine v_iload C 0 rfl dX5_works_189 ?_
                    refine v_iadd C dX5_works_191 (v_eqi (nI_add (20 * ((evs cA cV (T.take k) []).length - 1)) c2) ?_)
                    refine v_lald C (hm3.2.2.2.1 13 rfl) (vpin (show ((20 * ((evs cA cV (T.take k) []).length - 1)) + c2) < 200 by omega) (by decide)) dX5_works_192 (v_eql (y := f ((20 * ((evs cA cV (T.take k) []).length - 1)) + c2)) (congrArg f (nI_clamp (show ((20 * ((evs cA cV (T.take k) []).length - 1)) + c2) < 2 ^ 31 by omega))) ?_)
                    refine v_iload C 2 rfl dX5_works_193 ?_
                    refine v_i2l (v := lN64 nn) C dX5_works_195 rfl ?_
                    refine v_lmul C dX5_works_196 (v_eql (y := ((f ((20 * ((evs cA cV (T.take k) []).length - 1)) + c2)) * (lN64 nn))) (rfl) ?_)
                    refine v_bipush (v := 100) C dX5_works_197 (by decide) ?_
                    refine v_callS (rest := [.int (nI ((20 * ((evs cA cV (T.take k) []).length - 1)) + c2)), .ref (ad 13)]) C (c_X5_down l hl G ((f ((20 * ((evs cA cV (T.take k) []).length - 1)) + c2)) * (lN64 nn)) h3) S_X5_143 rfl rfl (Nat.le_of_ble_eq_true rfl) ⟨Nat.le_of_ble_eq_true rfl, Nat.le_of_ble_eq_true rfl⟩ ⟨Nat.le_of_ble_eq_true rfl, Nat.le_of_ble_eq_true rfl⟩ dX5_works_199 (fun l36 h36 q36 => ?_)
                    obtain ⟨e36, rfl⟩ := q36; subst e36
                    have hsv : zfd ((f ((20 * ((evs cA cV (T.take k) []).length - 1)) + c2)) * (lN64 nn)) = zfd (w (20 * ((evs cA cV (T.take k) []).length - 1) + c2) * lN64 nn) := by rw [hinp.2 _ (Or.inl (by omega))]
                    refine v_last C (hm3.2.2.2.1 13 rfl) (vpin (show ((20 * ((evs cA cV (T.take k) []).length - 1)) + c2) < 200 by omega) (by decide)) dX5_works_202 (v_nw (fun h37 eh37 => ?_))
                    have hm37 := hm3.putL2 (k := 13) rfl (g := f) (i := ((20 * ((evs cA cV (T.take k) []).length - 1)) + c2)) (v := (zfd ((f ((20 * ((evs cA cV (T.take k) []).length - 1)) + c2)) * (lN64 nn)))) (by omega) eh37
                    refine v_goto (tgt := 254) C dX5_works_203 (by decide) ?_
                    have hmv := hm37; rw [up2_13] at hmv
                    refine v_iinc C 0 [(7, .int (gI c2)), (6, .int (nI (20 * ((evs cA cV (T.take k) []).length - 1)))), (5, .int (nI nn)), (4, .int (nI kk)), (2, .int (nI ((evs cA cV (T.take k) []).length))), (3, .int (nI k)), (1, .int (nI D)), (0, .ref m)] rfl (gI_dec c2) rfl (by decide) dX5_works_254 ?_
                    refine v_goto (tgt := 81) C dX5_works_257 (by decide) ?_
                    refine v_lvp [0, 1, 2, 3, 4, 5, 6, 7] rfl ?_
                    exact ih26 c2 _ h37 (by omega) hmv (hinp.step (by omega) hsv) (by omega)
              refine v_lvp [0, 1, 3, 4, 2, 5, 6, 7] rfl ?_
              rw [show (19 : Int32) = gI 20 by decide]
              exact L26 21 20 w h2 (by decide) hm2 inP.rf (by decide)
            · have k78 : kk = 8 := by omega
              have L39 : ∀ (d : Nat) (c : Nat) (f : Nat → Int64) (h3 : zH), (c ≤ 20) → (MR G h0 h3 m ad ns na ia (up2 la 13 f)) → (inP f w (fun z => syr (fun y => w (20 * ((evs cA cV (T.take k) []).length - 1) + y)) z 4) (20 * ((evs cA cV (T.take k) []).length - 1)) c) → (c + 1 ≤ d) → V zp l ze (rmm 13 0 0) zs zm zargs zbelow zmeth zc G 9 Q h3 (0 + 0) (0 + 0) 81 [(7, .int (gI c)), (6, .int (nI (20 * ((evs cA cV (T.take k) []).length - 1)))), (5, .int (nI nn)), (4, .int (nI kk)), (2, .int (nI ((evs cA cV (T.take k) []).length))), (3, .int (nI k)), (1, .int (nI D)), (0, .ref m)] [] := by
                intro d
                induction d with
                | zero =>
                  intro c f h3 hc hm3 hinp hd
                  exact absurd hd (by omega)
                | succ d ih39 =>
                  intro c f h3 hc hm3 hinp hd
                  refine v_iload C 0 rfl dX5_works_81 ?_
                  refine v_if_lt (tgt := 260) C dX5_works_83 (by decide) (fun c40 => ?_) (fun c40 => ?_)
                  · have c40 := (gI_neg (c := c) (by omega)).mp c40
                    refine v_iinc C 5 [(3, .int (nI (k + 1))), (7, .int (gI c)), (6, .int (nI (20 * ((evs cA cV (T.take k) []).length - 1)))), (5, .int (nI nn)), (4, .int (nI kk)), (2, .int (nI ((evs cA cV (T.take k) []).length))), (1, .int (nI D)), (0, .ref m)] rfl (nI_inc k 1 (by decide)) rfl (by decide) dX5_works_260 ?_
                    refine v_goto (tgt := 4) C dX5_works_263 (by decide) ?_
                    refine v_lvp [0, 5, 6, 7] rfl ?_
                    have hc0 : c = 0 := by omega
                    subst hc0
                    have hsev : evs cA cV (T.take (k + 1)) [] = sev cA cV kk nn (evs cA cV (T.take k) []) := by
                        rw [take_snoc hkl, evs_app]; show sev cA cV (T.getD k (0, 0)).1 (T.getD k (0, 0)).2 _ = _; rw [← hk1, ← hk2]
                    have hst2 : stkAt f (evs cA cV (T.take (k + 1)) []) := by rw [hsev, k78]; exact ev_year hro2.1 hst hinp
                    have hln : (evs cA cV (T.take (k + 1)) []).length = (evs cA cV (T.take k) []).length := by rw [hsev, sev_len, if_neg (by omega), if_pos (by omega)]; omega
                    rw [show (evs cA cV (T.take k) []).length = (evs cA cV (T.take (k + 1)) []).length from hln.symm]
                    exact ih1 (k + 1) f h3 (by omega) hm3 hst2 (by rw [hln]; exact hro2.2) (by rw [hln]; omega) (by omega)
                  · have c40 := (not_congr (gI_neg (c := c) (by omega))).mp c40
                    obtain ⟨c2, rfl⟩ : ∃ c2, c = c2 + 1 := ⟨c - 1, by omega⟩
                    rw [← gI_s c2]
                    refine v_iload C 3 rfl dX5_works_86 ?_
                    refine v_iconst (v := 4) C dX5_works_88 (by decide) ?_
                    refine v_bipush (v := 6) C dX5_works_89 (by decide) ?_
                    refine v_callS (rest := []) C (c_X5_isIn l hl G  (nI kk) 4 6 h3 ) S_X5_89 rfl rfl (Nat.le_of_ble_eq_true rfl) ⟨Nat.le_of_ble_eq_true rfl, Nat.le_of_ble_eq_true rfl⟩ ⟨Nat.le_of_ble_eq_true rfl, Nat.le_of_ble_eq_true rfl⟩ dX5_works_91 (fun i42 h42 q42 => ?_)
                    obtain ⟨e42, rfl⟩ := q42
                    have c42 : ¬ (wth (nI kk) 4 6) := c7
                    rw [zb_f c42] at e42; subst e42
                    refine v_if_eq (tgt := 120) C dX5_works_94 (by decide) (fun c43 => ?_) (fun c43 => absurd c43 (by decide))
                    refine v_iload C 3 rfl dX5_works_120 ?_
                    refine v_iconst (v := 4) C dX5_works_122 (by decide) ?_
                    refine v_icmp_ge (tgt := 167) C dX5_works_123 (by decide) (fun c44 => ?_) (fun c44 => absurd ((nk_ge (a := kk) (y := 4) 4 (by decide) (by omega) (by decide)).mpr (by omega)) c44)
                    have c44 := (nk_ge (a := kk) 4 (by decide) (by omega) (by decide)).mp c44
                    refine v_iload C 3 rfl dX5_works_167 ?_
                    refine v_bipush (v := 7) C dX5_works_169 (by decide) ?_
                    refine v_icmp_ne (tgt := 206) C dX5_works_171 (by decide) (fun c45 => ?_) (fun c45 => absurd c45 ((nk_ne (a := kk) (y := 7) 7 (by decide) (by omega) (by decide)).mpr (by omega)))
                    have c45 := (nk_ne (a := kk) 7 (by decide) (by omega) (by decide)).mp c45
                    refine v_iconst (v := 1) C dX5_works_206 (by decide) ?_
                    refine v_istore C [(8, .int 1), (7, .int (nI c2)), (6, .int (nI (20 * ((evs cA cV (T.take k) []).length - 1)))), (5, .int (nI nn)), (4, .int (nI kk)), (2, .int (nI ((evs cA cV (T.take k) []).length))), (3, .int (nI k)), (1, .int (nI D)), (0, .ref m)] rfl (by decide) dX5_works_207 ?_
                    have L46 : ∀ (d : Nat) (a : Nat) (y : Nat → Int64) (h4 : zH), (1 ≤ a) → (a ≤ 4) → (MR G h0 h4 m ad ns na ia (up2 la 13 y)) → (y = up2 f (20 * ((evs cA cV (T.take k) []).length - 1) + c2) (syr (fun z => w (20 * ((evs cA cV (T.take k) []).length - 1) + z)) c2 a)) → (5 ≤ a + d) → V zp l ze (rmm 13 0 0) zs zm zargs zbelow zmeth zc G 9 Q h4 (0 + 0 + 0) (0 + 0 + 0) 209 [(8, .int (nI a)), (7, .int (nI c2)), (6, .int (nI (20 * ((evs cA cV (T.take k) []).length - 1)))), (5, .int (nI nn)), (4, .int (nI kk)), (2, .int (nI ((evs cA cV (T.take k) []).length))), (3, .int (nI k)), (1, .int (nI D)), (0, .ref m)] [] := by
                      intro d
                      induction d with
                      | zero =>
                        intro a y h4 ha1 ha4 hm4 hy hd
                        exact absurd hd (by omega)
                      | succ d ih46 =>
                        intro a y h4 ha1 ha4 hm4 hy hd
                        refine v_iload C 0 rfl dX5_works_209 ?_
                        refine v_iconst (v := 4) C dX5_works_211 (by decide) ?_
                        refine v_icmp_ge (tgt := 254) C dX5_works_212 (by decide) (fun c47 => ?_) (fun c47 => ?_)
                        · have c47 := (nk_ge (a := a) 4 (by decide) (by omega) (by decide)).mp c47
                          have hyv : syr (fun z => w (20 * ((evs cA cV (T.take k) []).length - 1) + z)) c2 a = syr (fun z => w (20 * ((evs cA cV (T.take k) []).length - 1) + z)) c2 4 := (syr_stop_or (by omega)).symm
                          rw [hy] at hm4
                          refine v_iinc C 1 [(7, .int (gI c2)), (8, .int (nI a)), (6, .int (nI (20 * ((evs cA cV (T.take k) []).length - 1)))), (5, .int (nI nn)), (4, .int (nI kk)), (2, .int (nI ((evs cA cV (T.take k) []).length))), (3, .int (nI k)), (1, .int (nI D)), (0, .ref m)] rfl (gI_dec c2) rfl (by decide) dX5_works_254 ?_
                          refine v_goto (tgt := 81) C dX5_works_257 (by decide) ?_
                          refine v_lvp [0, 2, 3, 4, 5, 6, 7, 8] rfl ?_
                          exact ih39 c2 _ h4 (by omega) hm4 (hinp.step (by omega) hyv) (by omega)
                        · have c47 := (nk_ge_f (a := a) 4 (by decide) (by omega) (by decide)).mp c47
                          refine v_iload C 0 rfl dX5_works_215 ?_
                          refine v_iload C 1 rfl dX5_works_217 ?_
                          refine v_icmp_gt (tgt := 254) C dX5_works_219 (by decide) (fun c49 => ?_) (fun c49 => ?_)
                          · have c49 := (nn_gt (a := a) (b := c2) (by omega) (by omega)).mp c49
                            have hyv : syr (fun z => w (20 * ((evs cA cV (T.take k) []).length - 1) + z)) c2 a = syr (fun z => w (20 * ((evs cA cV (T.take k) []).length - 1) + z)) c2 4 := (syr_stop_or (by omega)).symm
                            rw [hy] at hm4
                            refine v_iinc C 1 [(7, .int (gI c2)), (8, .int (nI a)), (6, .int (nI (20 * ((evs cA cV (T.take k) []).length - 1)))), (5, .int (nI nn)), (4, .int (nI kk)), (2, .int (nI ((evs cA cV (T.take k) []).length))), (3, .int (nI k)), (1, .int (nI D)), (0, .ref m)] rfl (gI_dec c2) rfl (by decide) dX5_works_254 ?_
                            refine v_goto (tgt := 81) C dX5_works_257 (by decide) ?_
                            refine v_lvp [0, 2, 3, 4, 5, 6, 7, 8] rfl ?_
                            exact ih39 c2 _ h4 (by omega) hm4 (hinp.step (by omega) hyv) (by omega)
                          · have c49 := (nn_gt_f (a := a) (b := c2) (by omega) (by omega)).mp c49
                            refine v_aload_n C 8 rfl dX5_works_222 rfl ?_
                            refine v_get (v := .ref (ad 13)) C F_X5_41 hm4.1 rfl dX5_works_223 ?_
                            refine v_iload C 2 rfl dX5_works_226 ?_
                            refine v_iload C 1 rfl dX5_works_228 ?_
                            refine v_iadd C dX5_works_230 (v_eqi (nI_add (20 * ((evs cA cV (T.take k) []).length - 1)) c2) ?_)
                            refine v_dup2_11 C dX5_works_231 rfl rfl ?_
                            refine v_lald C (hm4.2.2.2.1 13 rfl) (vpin (show ((20 * ((evs cA cV (T.take k) []).length - 1)) + c2) < 200 by omega) (by decide)) dX5_works_232 (v_eql (y := y ((20 * ((evs cA cV (T.take k) []).length - 1)) + c2)) (congrArg y (nI_clamp (show ((20 * ((evs cA cV (T.take k) []).length - 1)) + c2) < 2 ^ 31 by omega))) ?_)
                            refine v_aload_n C 8 rfl dX5_works_233 rfl ?_
                            refine v_get (v := .ref (ad 13)) C F_X5_41 hm4.1 rfl dX5_works_234 ?_
                            refine v_iload C 2 rfl dX5_works_237 ?_
                            refine v_iload C 1 rfl dX5_works_239 ?_
                            refine v_iadd C dX5_works_241 (v_eqi (nI_add (20 * ((evs cA cV (T.take k) []).length - 1)) c2) ?_)
                            refine v_iload C 0 rfl dX5_works_242 ?_
                            refine v_isub C dX5_works_244 (v_eqi (pk_sub (a := ((20 * ((evs cA cV (T.take k) []).length - 1)) + c2)) (b := a) (by omega)) ?_)
                            refine v_lald C (hm4.2.2.2.1 13 rfl) (vpin (show (((20 * ((evs cA cV (T.take k) []).length - 1)) + c2) - a) < 200 by omega) (by decide)) dX5_works_245 (v_eql (y := y (((20 * ((evs cA cV (T.take k) []).length - 1)) + c2) - a)) (congrArg y (nI_clamp (show (((20 * ((evs cA cV (T.take k) []).length - 1)) + c2) - a) < 2 ^ 31 by omega))) ?_)
                            refine v_ladd C dX5_works_246 (v_eql (y := ((y ((20 * ((evs cA cV (T.take k) []).length - 1)) + c2)) + (y (((20 * ((evs cA cV (T.take k) []).length - 1)) + c2) - a)))) (rfl) ?_)
                            refine v_last C (hm4.2.2.2.1 13 rfl) (vpin (show ((20 * ((evs cA cV (T.take k) []).length - 1)) + c2) < 200 by omega) (by decide)) dX5_works_247 (v_nw (fun h55 eh55 => ?_))
                            have hm55 := hm4.putL2 (k := 13) rfl (g := y) (i := ((20 * ((evs cA cV (T.take k) []).length - 1)) + c2)) (v := ((y ((20 * ((evs cA cV (T.take k) []).length - 1)) + c2)) + (y (((20 * ((evs cA cV (T.take k) []).length - 1)) + c2) - a)))) (by omega) eh55
                            refine v_iinc C 0 [(8, .int (nI (a + 1))), (7, .int (nI c2)), (6, .int (nI (20 * ((evs cA cV (T.take k) []).length - 1)))), (5, .int (nI nn)), (4, .int (nI kk)), (2, .int (nI ((evs cA cV (T.take k) []).length))), (3, .int (nI k)), (1, .int (nI D)), (0, .ref m)] rfl (nI_inc a 1 (by decide)) rfl (by decide) dX5_works_248 ?_
                            refine v_goto (tgt := 209) C dX5_works_251 (by decide) ?_
                            refine v_lvp [0, 1, 2, 3, 4, 5, 6, 7, 8] rfl ?_
                            have hyn : (up2 y ((20 * ((evs cA cV (T.take k) []).length - 1)) + c2) ((y ((20 * ((evs cA cV (T.take k) []).length - 1)) + c2)) + (y (((20 * ((evs cA cV (T.take k) []).length - 1)) + c2) - a)))) = up2 f (20 * ((evs cA cV (T.take k) []).length - 1) + c2) (syr (fun z => w (20 * ((evs cA cV (T.take k) []).length - 1) + z)) c2 (a + 1)) := by
                                rw [syr_s (by omega)]; subst hy
                                rw [up2_s, up2_n (by omega), hinp.2 _ (Or.inl (by omega)), show 20 * ((evs cA cV (T.take k) []).length - 1) + c2 - a = 20 * ((evs cA cV (T.take k) []).length - 1) + (c2 - a) by omega]
                                exact up2_up2
                            have hmy := hm55; rw [up2_13] at hmy
                            exact ih46 (a + 1) _ h55 (by omega) (by omega) hmy hyn (by omega)
                    refine v_lvp [0, 1, 2, 3, 4, 5, 6, 7, 8] rfl ?_
                    have hyz : up2 f (20 * ((evs cA cV (T.take k) []).length - 1) + c2) (syr (fun z => w (20 * ((evs cA cV (T.take k) []).length - 1) + z)) c2 1) = f := by
                        funext j
                        by_cases q : j = 20 * ((evs cA cV (T.take k) []).length - 1) + c2
                        · subst q; rw [up2_s, syr_1]; exact (hinp.2 _ (Or.inl (by omega))).symm
                        · rw [up2_n q]
                    exact L46 5 1 f h3 (by decide) (by decide) hm3 hyz.symm (by omega)
              refine v_lvp [0, 1, 3, 4, 2, 5, 6, 7] rfl ?_
              rw [show (19 : Int32) = gI 20 by decide]
              exact L39 21 20 w h2 (by decide) hm2 inP.rf (by decide)
          · have c22 := (nk_ge_f (a := kk) 4 (by decide) (by omega) (by decide)).mp c22
            have zj : kk < 4 := by omega
            have hro2 := rok_j hro hkl (by rw [← hk1]; exact zj)
            have hro3 := hro2.1
            refine v_iconst (v := (-1)) C dX5_works_62 (by decide) ?_
            refine v_goto (tgt := 67) C dX5_works_63 (by decide) ?_
            refine v_iadd C dX5_works_67 (v_eqi (y := (nI ((evs cA cV (T.take k) []).length - 1))) (nI_am1 (by omega)) ?_)
            refine v_istore_n C [(2, .int (nI ((evs cA cV (T.take k) []).length - 1))), (5, .int (nI nn)), (4, .int (nI kk)), (3, .int (nI k)), (1, .int (nI D)), (0, .ref m)] rfl (by decide) dX5_works_68 rfl ?_
            refine v_bipush (v := 20) C dX5_works_69 (by decide) ?_
            refine v_iload_n C 0 rfl dX5_works_71 rfl ?_
            refine v_iconst (v := 1) C dX5_works_72 (by decide) ?_
            refine v_isub C dX5_works_73 (v_eqi (nI_sbk (a := ((evs cA cV (T.take k) []).length - 1)) 1 (by decide) (by omega)) ?_)
            refine v_imul C dX5_works_74 (v_eqi (nI_kml (((evs cA cV (T.take k) []).length - 1) - 1) 20 (by decide)) ?_)
            refine v_istore C [(6, .int (nI (20 * (((evs cA cV (T.take k) []).length - 1) - 1)))), (2, .int (nI ((evs cA cV (T.take k) []).length - 1))), (5, .int (nI nn)), (4, .int (nI kk)), (3, .int (nI k)), (1, .int (nI D)), (0, .ref m)] rfl (by decide) dX5_works_75 ?_
            refine v_bipush (v := 19) C dX5_works_77 (by decide) ?_
            refine v_istore C [(7, .int 19), (6, .int (nI (20 * (((evs cA cV (T.take k) []).length - 1) - 1)))), (2, .int (nI ((evs cA cV (T.take k) []).length - 1))), (5, .int (nI nn)), (4, .int (nI kk)), (3, .int (nI k)), (1, .int (nI D)), (0, .ref m)] rfl (by decide) dX5_works_79 ?_
            have L60 : ∀ (d : Nat) (c : Nat) (f : Nat → Int64) (h3 : zH), (c ≤ 20) → (MR G h0 h3 m ad ns na ia (up2 la 13 f)) → (inP f w (fun z => sjn kk (w (20 * ((evs cA cV (T.take k) []).length - 1 - 1) + z)) (w (20 * ((evs cA cV (T.take k) []).length - 1 - 1) + 20 + z))) (20 * ((evs cA cV (T.take k) []).length - 1 - 1)) c) → (c + 1 ≤ d) → V zp l ze (rmm 13 0 0) zs zm zargs zbelow zmeth zc G 9 Q h3 (0 + 0) (0 + 0) 81 [(7, .int (gI c)), (6, .int (nI (20 * ((evs cA cV (T.take k) []).length - 1 - 1)))), (5, .int (nI nn)), (4, .int (nI kk)), (2, .int (nI ((evs cA cV (T.take k) []).length - 1))), (3, .int (nI k)), (1, .int (nI D)), (0, .ref m)] [] := by
              intro d
              induction d with
              | zero =>
                intro c f h3 hc hm3 hinp hd
                exact absurd hd (by omega)
              | succ d ih60 =>
                intro c f h3 hc hm3 hinp hd
                refine v_iload C 0 rfl dX5_works_81 ?_
                refine v_if_lt (tgt := 260) C dX5_works_83 (by decide) (fun c61 => ?_) (fun c61 => ?_)
                · have c61 := (gI_neg (c := c) (by omega)).mp c61
                  refine v_iinc C 5 [(3, .int (nI (k + 1))), (7, .int (gI c)), (6, .int (nI (20 * ((evs cA cV (T.take k) []).length - 1 - 1)))), (5, .int (nI nn)), (4, .int (nI kk)), (2, .int (nI ((evs cA cV (T.take k) []).length - 1))), (1, .int (nI D)), (0, .ref m)] rfl (nI_inc k 1 (by decide)) rfl (by decide) dX5_works_260 ?_
                  refine v_goto (tgt := 4) C dX5_works_263 (by decide) ?_
                  refine v_lvp [0, 5, 6, 7] rfl ?_
                  have hc0 : c = 0 := by omega
                  subst hc0
                  have hsev : evs cA cV (T.take (k + 1)) [] = sev cA cV kk nn (evs cA cV (T.take k) []) := by
                      rw [take_snoc hkl, evs_app]; show sev cA cV (T.getD k (0, 0)).1 (T.getD k (0, 0)).2 _ = _; rw [← hk1, ← hk2]
                  have hst2 : stkAt f (evs cA cV (T.take (k + 1)) []) := by rw [hsev]; exact ev_join zj hro2.1 hst hinp
                  have hln : (evs cA cV (T.take (k + 1)) []).length = (evs cA cV (T.take k) []).length - 1 := by rw [hsev, sev_len, if_neg (by omega), if_neg (by omega)]; omega
                  rw [show (evs cA cV (T.take k) []).length - 1 = (evs cA cV (T.take (k + 1)) []).length from hln.symm]
                  exact ih1 (k + 1) f h3 (by omega) hm3 hst2 (by rw [hln]; exact hro2.2) (by rw [hln]; omega) (by omega)
                · have c61 := (not_congr (gI_neg (c := c) (by omega))).mp c61
                  obtain ⟨c2, rfl⟩ : ∃ c2, c = c2 + 1 := ⟨c - 1, by omega⟩
                  rw [← gI_s c2]
                  refine v_iload C 3 rfl dX5_works_86 ?_
                  refine v_iconst (v := 4) C dX5_works_88 (by decide) ?_
                  refine v_bipush (v := 6) C dX5_works_89 (by decide) ?_
                  refine v_callS (rest := []) C (c_X5_isIn l hl G  (nI kk) 4 6 h3 ) S_X5_89 rfl rfl (Nat.le_of_ble_eq_true rfl) ⟨Nat.le_of_ble_eq_true rfl, Nat.le_of_ble_eq_true rfl⟩ ⟨Nat.le_of_ble_eq_true rfl, Nat.le_of_ble_eq_true rfl⟩ dX5_works_91 (fun i63 h63 q63 => ?_)
                  obtain ⟨e63, rfl⟩ := q63
                  have c63 : ¬ (wth (nI kk) 4 6) := c7
                  rw [zb_f c63] at e63; subst e63
                  refine v_if_eq (tgt := 120) C dX5_works_94 (by decide) (fun c64 => ?_) (fun c64 => absurd c64 (by decide))
                  refine v_iload C 3 rfl dX5_works_120 ?_
                  refine v_iconst (v := 4) C dX5_works_122 (by decide) ?_
                  refine v_icmp_ge (tgt := 167) C dX5_works_123 (by decide) (fun c65 => absurd ((nk_ge (a := kk) 4 (by decide) (by omega) (by decide)).mp c65) (by omega)) (fun c65 => ?_)
                  have c65 := (nk_ge_f (a := kk) 4 (by decide) (by omega) (by decide)).mp c65
                  refine v_aload_n C 7 rfl dX5_works_126 rfl ?_
                  refine v_get (v := .ref (ad 13)) C F_X5_41 hm3.1 rfl dX5_works_127 ?_
                  refine v_iload C 1 rfl dX5_works_130 ?_
                  refine v_iload C 0 rfl dX5_works_132 ?_
                  refine v_iadd C dX5_works_134 (v_eqi (nI_add (20 * ((evs cA cV (T.take k) []).length - 1 - 1)) c2) ?_)
                  refine v_iload C 3 rfl dX5_works_135 ?_
                  refine v_aload_n C 7 rfl dX5_works_137 rfl ?_
                  refine v_get (v := .ref (ad 13)) C F_X5_41 hm3.1 rfl dX5_works_138 ?_
                  refine v_iload C 1 rfl dX5_works_141 ?_
                  refine v_iload C 0 rfl dX5_works_143 ?_
                  refine v_iadd C dX5_works_145 (v_eqi (nI_add (20 * ((evs cA cV (T.take k) []).length - 1 - 1)) c2) ?_)
                  refine v_lald C (hm3.2.2.2.1 13 rfl) (vpin (show ((20 * ((evs cA cV (T.take k) []).length - 1 - 1)) + c2) < 200 by omega) (by decide)) dX5_works_146 (v_eql (y := f ((20 * ((evs cA cV (T.take k) []).length - 1 - 1)) + c2)) (congrArg f (nI_clamp (show ((20 * ((evs cA cV (T.take k) []).length - 1 - 1)) + c2) < 2 ^ 31 by omega))) ?_)
                  refine v_aload_n C 7 rfl dX5_works_147 rfl ?_
                  refine v_get (v := .ref (ad 13)) C F_X5_41 hm3.1 rfl dX5_works_148 ?_
                  refine v_iload C 1 rfl dX5_works_151 ?_
                  refine v_bipush (v := 20) C dX5_works_153 (by decide) ?_
                  refine v_iadd C dX5_works_155 (v_eqi (nI_adk (20 * ((evs cA cV (T.take k) []).length - 1 - 1)) 20 (by decide)) ?_)
                  refine v_iload C 0 rfl dX5_works_156 ?_
                  refine v_iadd C dX5_works_158 (v_eqi (nI_add ((20 * ((evs cA cV (T.take k) []).length - 1 - 1)) + 20) c2) ?_)
                  refine v_lald C (hm3.2.2.2.1 13 rfl) (vpin (show (((20 * ((evs cA cV (T.take k) []).length - 1 - 1)) + 20) + c2) < 200 by omega) (by decide)) dX5_works_159 (v_eql (y := f (((20 * ((evs cA cV (T.take k) []).length - 1 - 1)) + 20) + c2)) (congrArg f (nI_clamp (show (((20 * ((evs cA cV (T.take k) []).length - 1 - 1)) + 20) + c2) < 2 ^ 31 by omega))) ?_)
                  refine v_callS (rest := [.int (nI ((20 * ((evs cA cV (T.take k) []).length - 1 - 1)) + c2)), .ref (ad 13)]) C (c_X5_joined l hl G kk (f ((20 * ((evs cA cV (T.take k) []).length - 1 - 1)) + c2)) (f (((20 * ((evs cA cV (T.take k) []).length - 1 - 1)) + 20) + c2)) h3 zj) S_X5_139 rfl rfl (Nat.le_of_ble_eq_true rfl) ⟨Nat.le_of_ble_eq_true rfl, Nat.le_of_ble_eq_true rfl⟩ ⟨Nat.le_of_ble_eq_true rfl, Nat.le_of_ble_eq_true rfl⟩ dX5_works_160 (fun l70 h70 q70 => ?_)
                  obtain ⟨e70, rfl⟩ := q70; subst e70
                  have hjv : sjn kk (f ((20 * ((evs cA cV (T.take k) []).length - 1 - 1)) + c2)) (f (((20 * ((evs cA cV (T.take k) []).length - 1 - 1)) + 20) + c2)) = sjn kk (w (20 * ((evs cA cV (T.take k) []).length - 1 - 1) + c2)) (w (20 * ((evs cA cV (T.take k) []).length - 1 - 1) + 20 + c2)) := by rw [hinp.2 _ (Or.inl (by omega)), hinp.2 _ (Or.inr (by omega))]
                  refine v_last C (hm3.2.2.2.1 13 rfl) (vpin (show ((20 * ((evs cA cV (T.take k) []).length - 1 - 1)) + c2) < 200 by omega) (by decide)) dX5_works_163 (v_nw (fun h71 eh71 => ?_))
                  have hm71 := hm3.putL2 (k := 13) rfl (g := f) (i := ((20 * ((evs cA cV (T.take k) []).length - 1 - 1)) + c2)) (v := (sjn kk (f ((20 * ((evs cA cV (T.take k) []).length - 1 - 1)) + c2)) (f (((20 * ((evs cA cV (T.take k) []).length - 1 - 1)) + 20) + c2)))) (by omega) eh71
                  refine v_goto (tgt := 254) C dX5_works_164 (by decide) ?_
                  have hmv := hm71; rw [up2_13] at hmv
                  refine v_iinc C 0 [(7, .int (gI c2)), (6, .int (nI (20 * ((evs cA cV (T.take k) []).length - 1 - 1)))), (5, .int (nI nn)), (4, .int (nI kk)), (2, .int (nI ((evs cA cV (T.take k) []).length - 1))), (3, .int (nI k)), (1, .int (nI D)), (0, .ref m)] rfl (gI_dec c2) rfl (by decide) dX5_works_254 ?_
                  refine v_goto (tgt := 81) C dX5_works_257 (by decide) ?_
                  refine v_lvp [0, 1, 2, 3, 4, 5, 6, 7] rfl ?_
                  exact ih60 c2 _ h71 (by omega) hmv (hinp.step (by omega) hjv) (by omega)
            refine v_lvp [0, 1, 3, 4, 2, 5, 6, 7] rfl ?_
            rw [show (19 : Int32) = gI 20 by decide]
            exact L60 21 20 w h2 (by decide) hm2 inP.rf (by decide)
  refine v_lvp [0, 1, 3, 2] rfl ?_
  have hmz : MR G h0 h m ad ns na ia (up2 la 13 (la 13)) := by rw [up2_id13]; exact hm
  exact L1 (T.length + 1) 0 (la 13) h (Nat.zero_le _) hmz trivial (by rw [List.drop_zero]; exact hrok) (Nat.zero_le _) (by omega)

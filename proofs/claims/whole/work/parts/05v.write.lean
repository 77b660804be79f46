theorem two_of {α : Type} {S : List α} (h : 2 ≤ S.length) : ∃ B A X, S = B :: A :: X := by
  cases S with
  | nil => exact absurd h (by simp)
  | cons B S =>
    cases S with
    | nil => exact absurd h (by simp)
    | cons A X => exact ⟨B, A, X, rfl⟩
theorem one_of {α : Type} {S : List α} (h : 1 ≤ S.length) : ∃ A X, S = A :: X := by
  cases S with
  | nil => exact absurd h (by simp)
  | cons B S => exact ⟨B, S, rfl⟩
theorem asc_ap {a b : List Nat} (h : asc (a ++ b)) : asc a ∧ asc b := ⟨fun c hc => h c (List.mem_append_left _ hc), fun c hc => h c (List.mem_append_right _ hc)⟩
theorem up2_3w {n : Nat → Nat → Nat} {a b c d : Nat → Nat} : up2 (up2 (up2 (up2 n 16 a) 14 b) 16 c) 14 d = up2 (up2 n 16 c) 14 d := up2_c4 (by decide)
set_option maxHeartbeats 4000000 in
set_option maxRecDepth 100000 in
theorem c_X5_writes (l : Launch) (hl : l.stackTraces = false) (G : zG) (m : Nat) (ad : Nat → Nat) (ns : Nat → Nat) (na : Nat → Nat → Nat) (ia : Nat → Nat → Int32) (la : Nat → Nat → Int64) (h0 : zH) (D : Nat) (T : List Tok) (h : zH) (hm : MR G h0 h m ad ns na ia la) (hD : D < 200) (hTl : na 9 D = T.length) (hT6 : T.length ≤ 63) (htk : tkAt (na 10) (na 11) (64 * D) T) (hrok : rOK 6 T 0) (htok : tOK 448 T []) (hbound : ∀ j, j < T.length → (T.getD j (0, 0)).1 ≤ 8 ∧ (T.getD j (0, 0)).2 ≤ 1000000 ∧ ((T.getD j (0, 0)).1 = 4 → (T.getD j (0, 0)).2 < 6) ∧ ((T.getD j (0, 0)).1 = 6 → (T.getD j (0, 0)).2 < 10) ∧ ((T.getD j (0, 0)).1 = 7 → (T.getD j (0, 0)).2 ≤ 100)) : zMet eV l yX5_writes cX5_writes 7 none 14 0 0 G [.ref m, .int (nI D)] h (fun _ h2 => ∃ f g, MR G h0 h2 m ad (upN ns 15 (txJ (txs T [])).length) (up2 (up2 na 16 g) 14 f) ia la ∧ txA f (txJ (txs T []))) := by
  refine con_of hl RX5 rfl (by decide +kernel) [(0, .ref m), (1, .int (nI D))] rfl (Nat.le_of_ble_eq_true rfl) ?_
  intro zp ze zs zm zargs zbelow zmeth zc C hr hin Q hQ
  refine v_iconst (v := 0) C dX5_writes_0 (by decide) ?_
  refine v_istore_n C [(2, .int 0), (0, .ref m), (1, .int (nI D))] rfl (by decide) dX5_writes_1 rfl ?_
  refine v_aload_n C 1 rfl dX5_writes_2 rfl ?_
  refine v_iconst (v := 0) C dX5_writes_3 (by decide) ?_
  refine v_put C (mC ad (upN ns 15 0)) P_X5_154 hm.1 rfl rfl rfl (Nat.le_of_ble_eq_true rfl) dX5_writes_4 (v_nw (fun h1 eh1 => ?_))
  have hm1 := hm.putS 15 0 rfl eh1
  refine v_iconst (v := 0) C dX5_writes_7 (by decide) ?_
  refine v_istore_n C [(3, .int 0), (2, .int 0), (0, .ref m), (1, .int (nI D))] rfl (by decide) dX5_writes_8 rfl ?_
  have L2 : ∀ (d : Nat) (k : Nat) (S : List (List Nat)) (f g : Nat → Nat) (h2 : zH), (k ≤ T.length) → (MR G h0 h2 m ad (upN ns 15 (txJ S).length) (up2 (up2 na 16 g) 14 f) ia la) → (S = txs (T.take k) []) → (txA f (txJ S)) → (stsAt g S) → (rOK 6 (T.drop k) S.length) → (S.length ≤ 6) → (tOK 448 (T.drop k) S) → (asc (txJ S)) → (T.length + 1 ≤ k + d) → V zp l ze (rmm 14 0 0) zs zm zargs zbelow zmeth zc G 7 Q h2 (0) (0) 9 [(3, .int (nI k)), (2, .int (nI S.length)), (1, .int (nI D)), (0, .ref m)] [] := by
    intro d
    induction d with
    | zero =>
      intro k S f g h2 hk hm2 hS hf hg hro hS6 hto hac hd
      exact absurd hd (by omega)
    | succ d ih2 =>
      intro k S f g h2 hk hm2 hS hf hg hro hS6 hto hac hd
      refine v_iload_n C 0 rfl dX5_writes_9 rfl ?_
      refine v_aload_n C 3 rfl dX5_writes_10 rfl ?_
      refine v_get (v := .ref (ad 9)) C F_X5_28 hm2.1 rfl dX5_writes_11 ?_
      refine v_iload_n C 2 rfl dX5_writes_14 rfl ?_
      refine v_iald C (hm2.2.1 9 rfl) (vpin (show D < 200 by omega) (by decide)) dX5_writes_15 (v_eqi (y := nI ((na 9) D)) (congrArg (fun j => nI ((na 9) j)) (nI_clamp (show D < 2 ^ 31 by omega))) ?_)
      refine v_icmp_ge (tgt := 224) C dX5_writes_16 (by decide) (fun c3 => ?_) (fun c3 => ?_)
      · have c3 := (nn_ge (a := k) (b := ((na 9) D)) (by omega) (by omega)).mp c3
        exact v_vret C hQ hr (Nat.le_of_ble_eq_true rfl) (Nat.le_of_ble_eq_true rfl) dX5_writes_224 (by have hz : k = T.length := (by omega); rw [hz, List.take_length] at hS; rw [hS] at hm2 hf; exact ⟨f, g, hm2, hf⟩)
      · have c3 := (nn_ge_f (a := k) (b := ((na 9) D)) (by omega) (by omega)).mp c3
        have hkl : k < T.length := by omega
        obtain ⟨hk1z, hk2z⟩ := htk k hkl
        have hbd := hbound k hkl
        obtain ⟨htl, hto2⟩ := tok_s hto hkl
        refine v_aload_n C 3 rfl dX5_writes_19 rfl ?_
        refine v_get (v := .ref (ad 10)) C F_X5_31 hm2.1 rfl dX5_writes_20 ?_
        refine v_bipush (v := 64) C dX5_writes_23 (by decide) ?_
        refine v_iload_n C 2 rfl dX5_writes_25 rfl ?_
        refine v_imul C dX5_writes_26 (v_eqi (nI_kml D 64 (by decide)) ?_)
        refine v_iload_n C 0 rfl dX5_writes_27 rfl ?_
        refine v_iadd C dX5_writes_28 (v_eqi (nI_add (64 * D) k) ?_)
        refine v_iald C (hm2.2.1 10 rfl) (vpin (show ((64 * D) + k) < 12800 by omega) (by decide)) dX5_writes_29 (v_eqi (y := nI ((na 10) ((64 * D) + k))) (congrArg (fun j => nI ((na 10) j)) (nI_clamp (show ((64 * D) + k) < 2 ^ 31 by omega))) ?_)
        obtain ⟨kk, hkk⟩ : ∃ kk, kk = na 10 (64 * D + k) := ⟨_, rfl⟩
        rw [← hkk]
        have hk1 : kk = (T.getD k (0, 0)).1 := by rw [hkk, hk1z]
        have hkb : kk ≤ 8 := by rw [hk1]; exact hbd.1
        refine v_istore C [(4, .int (nI kk)), (3, .int (nI k)), (2, .int (nI S.length)), (1, .int (nI D)), (0, .ref m)] rfl (by decide) dX5_writes_30 ?_
        refine v_aload_n C 4 rfl dX5_writes_32 rfl ?_
        refine v_get (v := .ref (ad 11)) C F_X5_34 hm2.1 rfl dX5_writes_33 ?_
        refine v_bipush (v := 64) C dX5_writes_36 (by decide) ?_
        refine v_iload_n C 3 rfl dX5_writes_38 rfl ?_
        refine v_imul C dX5_writes_39 (v_eqi (nI_kml D 64 (by decide)) ?_)
        refine v_iload_n C 1 rfl dX5_writes_40 rfl ?_
        refine v_iadd C dX5_writes_41 (v_eqi (nI_add (64 * D) k) ?_)
        refine v_iald C (hm2.2.1 11 rfl) (vpin (show ((64 * D) + k) < 12800 by omega) (by decide)) dX5_writes_42 (v_eqi (y := nI ((na 11) ((64 * D) + k))) (congrArg (fun j => nI ((na 11) j)) (nI_clamp (show ((64 * D) + k) < 2 ^ 31 by omega))) ?_)
        obtain ⟨nn, hnn⟩ : ∃ nn, nn = na 11 (64 * D + k) := ⟨_, rfl⟩
        rw [← hnn]
        have hk2 : nn = (T.getD k (0, 0)).2 := by rw [hnn, hk2z]
        have hnb : nn ≤ 1000000 := by rw [hk2]; exact hbd.2.1
        refine v_istore C [(5, .int (nI nn)), (4, .int (nI kk)), (3, .int (nI k)), (2, .int (nI S.length)), (1, .int (nI D)), (0, .ref m)] rfl (by decide) dX5_writes_43 ?_
        refine v_iload C 1 rfl dX5_writes_45 ?_
        refine v_iconst (v := 4) C dX5_writes_47 (by decide) ?_
        refine v_bipush (v := 6) C dX5_writes_48 (by decide) ?_
        refine v_callS (rest := []) C (c_X5_isIn l hl G  (nI kk) 4 6 h2 ) S_X5_89 rfl rfl (Nat.le_of_ble_eq_true rfl) ⟨Nat.le_of_ble_eq_true rfl, Nat.le_of_ble_eq_true rfl⟩ ⟨Nat.le_of_ble_eq_true rfl, Nat.le_of_ble_eq_true rfl⟩ dX5_writes_50 (fun i8 h8 q8 => ?_)
        obtain ⟨e8, rfl⟩ := q8
        by_cases c8 : wth (nI kk) 4 6
        · rw [zb_t c8] at e8; subst e8
          have z46 := (wth_46 (by omega)).mp c8
          have hro2 := rok_l hro hkl (by rw [← hk1]; exact z46)
          have hro3 := hro2.1
          refine v_if_eq (tgt := 110) C dX5_writes_53 (by decide) (fun c9 => absurd c9 (by decide)) (fun c9 => ?_)
          refine v_aload_n C 5 rfl dX5_writes_56 rfl ?_
          refine v_get (v := .ref (ad 16)) C F_X5_48 hm2.1 rfl dX5_writes_57 ?_
          refine v_iload_n C 3 rfl dX5_writes_60 rfl ?_
          refine v_aload_n C 5 rfl dX5_writes_61 rfl ?_
          refine v_get (v := .int (nI ((txJ S).length))) C F_X5_154 hm2.1 rfl dX5_writes_62 ?_
          refine v_iast C (hm2.2.1 16 rfl) (vpin (show S.length < 16 by omega) (by decide)) dX5_writes_65 (v_nw (fun h10 eh10 => ?_))
          have hm10 := hm2.putN (k := 16) rfl (g := g) (i := S.length) (v := ((txJ S).length)) (by omega) eh10
          refine v_iinc C 3 [(2, .int (nI (S.length + 1))), (5, .int (nI nn)), (4, .int (nI kk)), (3, .int (nI k)), (1, .int (nI D)), (0, .ref m)] rfl (nI_inc S.length 1 (by decide)) rfl (by decide) dX5_writes_66 ?_
          refine v_iload C 2 rfl dX5_writes_69 ?_
          refine v_iconst (v := 5) C dX5_writes_71 (by decide) ?_
          refine v_icmp_eq (tgt := 96) C dX5_writes_72 (by decide) (fun c12 => ?_) (fun c12 => ?_)
          · have c12 := (nk_eq (a := kk) 5 (by decide) (by omega) (by decide)).mp c12
            have y5 : kk = 5 := by omega
            refine v_aload_n C 5 rfl dX5_writes_96 rfl ?_
            refine v_aload_n C 5 rfl dX5_writes_97 rfl ?_
            refine v_get (v := .int (nI ((txJ S).length))) C F_X5_154 hm10.1 rfl dX5_writes_98 ?_
            refine v_iload C 1 rfl dX5_writes_101 ?_
            refine v_callV (rest := []) C (c_X5_insertsNumber l hl G m ad (upN ns 15 (txJ S).length) (up2 (up2 (up2 na 16 g) 14 f) 16 (upN g S.length ((txJ S).length))) ia la h0 (txJ S).length nn (txJ S) h10 hm10 hf upN_s (Nat.le_refl _) (by omega) hac hnb) K_X5_161 hm10.1 rfl rfl (Nat.le_of_ble_eq_true rfl) ⟨Nat.le_of_ble_eq_true rfl, Nat.le_of_ble_eq_true rfl⟩ ⟨Nat.le_of_ble_eq_true rfl, Nat.le_of_ble_eq_true rfl⟩ dX5_writes_103 (fun i13 h13 q13 => ?_)
            obtain ⟨e13, f13, hm13, hT13⟩ := q13; subst e13
            rw [insS_fin] at hT13
            have hle13 : ((txJ S) ++ dgl nn).length = (txJ S).length + sb_dg nn := by rw [List.length_append, dgl_len]
            rw [upN_s] at hm13
            have hm13b : MR G h0 h13 m ad (upN ns 15 ((txJ S) ++ dgl nn).length) (up2 (up2 na 16 (upN g S.length ((txJ S).length))) 14 f13) ia la := by
                have q := hm13
                rw [upN_upN, up2_c4 (by decide)] at q
                rw [hle13]; exact q
            have ha13 : asc ((txJ S) ++ dgl nn) := asc_app hac (dgl_asc nn)
            refine v_pop C dX5_writes_106 rfl ?_
            refine v_goto (tgt := 218) C dX5_writes_107 (by decide) ?_
            refine v_iinc C 3 [(3, .int (nI (k + 1))), (2, .int (nI (S.length + 1))), (5, .int (nI nn)), (4, .int (nI kk)), (1, .int (nI D)), (0, .ref m)] rfl (nI_inc k 1 (by decide)) rfl (by decide) dX5_writes_218 ?_
            refine v_goto (tgt := 9) C dX5_writes_221 (by decide) ?_
            refine v_lvp [0, 1, 4, 5] rfl ?_
            have hstx : stx kk nn S = dgl nn :: S := by unfold stx; rw [if_neg (by omega), if_pos y5]
            rw [← hk1, ← hk2, hstx] at hto2
            have hS2 : dgl nn :: S = txs (T.take (k + 1)) [] := by
                rw [take_snoc hkl, txs_app, ← hS]; show _ = stx (T.getD k (0, 0)).1 (T.getD k (0, 0)).2 S; rw [← hk1, ← hk2, hstx]
            have hl2 : (dgl nn :: S).length = S.length + 1 := rfl
            have hmq := hm13b
            have hTe : ((txJ S) ++ dgl nn) = txJ (dgl nn :: S) := rfl
            rw [hTe] at hmq
            have hfq : txA f13 (txJ (dgl nn :: S)) := by rw [← hTe]; exact hT13
            exact ih2 (k + 1) (dgl nn :: S) _ _ h13 (by omega) hmq hS2 hfq ⟨upN_s, hg.frame (fun j hj => upN_n (by omega))⟩ (by rw [hl2]; exact hro2.2) (by rw [hl2]; omega) hto2 (by rw [← hTe]; exact ha13) (by omega)
          · have c12 := (nk_eq_f (a := kk) 5 (by decide) (by omega) (by decide)).mp c12
            have y5 : ¬ kk = 5 := by omega
            refine v_aload_n C 5 rfl dX5_writes_75 rfl ?_
            refine v_aload_n C 5 rfl dX5_writes_76 rfl ?_
            refine v_get (v := .int (nI ((txJ S).length))) C F_X5_154 hm10.1 rfl dX5_writes_77 ?_
            refine v_iload C 2 rfl dX5_writes_80 ?_
            refine v_iconst (v := 4) C dX5_writes_82 (by decide) ?_
            refine v_icmp_ne (tgt := 91) C dX5_writes_83 (by decide) (fun c15 => ?_) (fun c15 => ?_)
            · have c15 := (nk_ne (a := kk) 4 (by decide) (by omega) (by decide)).mp c15
              have y4 : ¬ kk = 4 := by omega
              refine v_bipush (v := 84) C dX5_writes_91 (by decide) ?_
              refine v_callV (rest := []) C (c_X5_inserts l hl G m ad (upN ns 15 (txJ S).length) (up2 (up2 (up2 na 16 g) 14 f) 16 (upN g S.length ((txJ S).length))) ia la h0 (txJ S).length 84 (txJ S) h10 hm10 hf upN_s (Nat.le_refl _) (by omega) hac (by decide)) K_X5_157 hm10.1 rfl rfl (Nat.le_of_ble_eq_true rfl) ⟨Nat.le_of_ble_eq_true rfl, Nat.le_of_ble_eq_true rfl⟩ ⟨Nat.le_of_ble_eq_true rfl, Nat.le_of_ble_eq_true rfl⟩ dX5_writes_93 (fun _ h16 q16 => ?_)
              obtain ⟨f16, hm16, hT16⟩ := q16
              rw [insL_at (P := (txJ S)) (Q := []) (List.append_nil _).symm rfl] at hT16
              have hle16 : ((txJ S) ++ [84]).length = (txJ S).length + 1 := List.length_append
              rw [upN_s] at hm16
              have hm16b : MR G h0 h16 m ad (upN ns 15 ((txJ S) ++ [84]).length) (up2 (up2 na 16 (upN g S.length ((txJ S).length))) 14 f16) ia la := by
                  have q := hm16
                  rw [upN_upN, up2_c4 (by decide)] at q
                  rw [hle16]; exact q
              have ha16 : asc ((txJ S) ++ [84]) := asc_app hac (asc_lit rfl)
              have hl16 : ((txJ S) ++ [84]).length ≤ 700 := by omega
              refine v_aload_n C 5 rfl dX5_writes_96 rfl ?_
              refine v_aload_n C 5 rfl dX5_writes_97 rfl ?_
              refine v_get (v := .int (nI (((txJ S) ++ [84]).length))) C F_X5_154 hm16b.1 rfl dX5_writes_98 ?_
              refine v_iload C 1 rfl dX5_writes_101 ?_
              refine v_callV (rest := []) C (c_X5_insertsNumber l hl G m ad (upN ns 15 ((txJ S) ++ [84]).length) (up2 (up2 na 16 (upN g S.length ((txJ S).length))) 14 f16) ia la h0 ((txJ S) ++ [84]).length nn ((txJ S) ++ [84]) h16 hm16b hT16 upN_s (Nat.le_refl _) (by omega) ha16 hnb) K_X5_161 hm16b.1 rfl rfl (Nat.le_of_ble_eq_true rfl) ⟨Nat.le_of_ble_eq_true rfl, Nat.le_of_ble_eq_true rfl⟩ ⟨Nat.le_of_ble_eq_true rfl, Nat.le_of_ble_eq_true rfl⟩ dX5_writes_103 (fun i17 h17 q17 => ?_)
              obtain ⟨e17, f17, hm17, hT17⟩ := q17; subst e17
              rw [insS_fin] at hT17
              have hle17 : (((txJ S) ++ [84]) ++ dgl nn).length = ((txJ S) ++ [84]).length + sb_dg nn := by rw [List.length_append, dgl_len]
              rw [upN_s] at hm17
              have hm17b : MR G h0 h17 m ad (upN ns 15 (((txJ S) ++ [84]) ++ dgl nn).length) (up2 (up2 na 16 (upN g S.length ((txJ S).length))) 14 f17) ia la := by
                  have q := hm17
                  rw [upN_upN, up2_up2] at q
                  rw [hle17]; exact q
              have ha17 : asc (((txJ S) ++ [84]) ++ dgl nn) := asc_app ha16 (dgl_asc nn)
              refine v_pop C dX5_writes_106 rfl ?_
              refine v_goto (tgt := 218) C dX5_writes_107 (by decide) ?_
              refine v_iinc C 3 [(3, .int (nI (k + 1))), (2, .int (nI (S.length + 1))), (5, .int (nI nn)), (4, .int (nI kk)), (1, .int (nI D)), (0, .ref m)] rfl (nI_inc k 1 (by decide)) rfl (by decide) dX5_writes_218 ?_
              refine v_goto (tgt := 9) C dX5_writes_221 (by decide) ?_
              refine v_lvp [0, 1, 4, 5] rfl ?_
              have hstx : stx kk nn S = ([84] ++ dgl nn) :: S := by unfold stx; rw [if_neg y4, if_neg y5, if_pos (by omega)]
              rw [← hk1, ← hk2, hstx] at hto2
              have hS2 : ([84] ++ dgl nn) :: S = txs (T.take (k + 1)) [] := by
                  rw [take_snoc hkl, txs_app, ← hS]; show _ = stx (T.getD k (0, 0)).1 (T.getD k (0, 0)).2 S; rw [← hk1, ← hk2, hstx]
              have hl2 : (([84] ++ dgl nn) :: S).length = S.length + 1 := rfl
              have hmq := hm17b
              have hTe : (((txJ S) ++ [84]) ++ dgl nn) = txJ (([84] ++ dgl nn) :: S) := List.append_assoc _ _ _
              rw [hTe] at hmq
              have hfq : txA f17 (txJ (([84] ++ dgl nn) :: S)) := by rw [← hTe]; exact hT17
              exact ih2 (k + 1) (([84] ++ dgl nn) :: S) _ _ h17 (by omega) hmq hS2 hfq ⟨upN_s, hg.frame (fun j hj => upN_n (by omega))⟩ (by rw [hl2]; exact hro2.2) (by rw [hl2]; omega) hto2 (by rw [← hTe]; exact ha17) (by omega)
            · have c15 := (nk_ne_f (a := kk) 4 (by decide) (by omega) (by decide)).mp c15
              have y4 : kk = 4 := by omega
              refine v_bipush (v := 65) C dX5_writes_86 (by decide) ?_
              refine v_goto (tgt := 93) C dX5_writes_88 (by decide) ?_
              refine v_callV (rest := []) C (c_X5_inserts l hl G m ad (upN ns 15 (txJ S).length) (up2 (up2 (up2 na 16 g) 14 f) 16 (upN g S.length ((txJ S).length))) ia la h0 (txJ S).length 65 (txJ S) h10 hm10 hf upN_s (Nat.le_refl _) (by omega) hac (by decide)) K_X5_157 hm10.1 rfl rfl (Nat.le_of_ble_eq_true rfl) ⟨Nat.le_of_ble_eq_true rfl, Nat.le_of_ble_eq_true rfl⟩ ⟨Nat.le_of_ble_eq_true rfl, Nat.le_of_ble_eq_true rfl⟩ dX5_writes_93 (fun _ h19 q19 => ?_)
              obtain ⟨f19, hm19, hT19⟩ := q19
              rw [insL_at (P := (txJ S)) (Q := []) (List.append_nil _).symm rfl] at hT19
              have hle19 : ((txJ S) ++ [65]).length = (txJ S).length + 1 := List.length_append
              rw [upN_s] at hm19
              have hm19b : MR G h0 h19 m ad (upN ns 15 ((txJ S) ++ [65]).length) (up2 (up2 na 16 (upN g S.length ((txJ S).length))) 14 f19) ia la := by
                  have q := hm19
                  rw [upN_upN, up2_c4 (by decide)] at q
                  rw [hle19]; exact q
              have ha19 : asc ((txJ S) ++ [65]) := asc_app hac (asc_lit rfl)
              have hl19 : ((txJ S) ++ [65]).length ≤ 700 := by omega
              refine v_aload_n C 5 rfl dX5_writes_96 rfl ?_
              refine v_aload_n C 5 rfl dX5_writes_97 rfl ?_
              refine v_get (v := .int (nI (((txJ S) ++ [65]).length))) C F_X5_154 hm19b.1 rfl dX5_writes_98 ?_
              refine v_iload C 1 rfl dX5_writes_101 ?_
              refine v_callV (rest := []) C (c_X5_insertsNumber l hl G m ad (upN ns 15 ((txJ S) ++ [65]).length) (up2 (up2 na 16 (upN g S.length ((txJ S).length))) 14 f19) ia la h0 ((txJ S) ++ [65]).length nn ((txJ S) ++ [65]) h19 hm19b hT19 upN_s (Nat.le_refl _) (by omega) ha19 hnb) K_X5_161 hm19b.1 rfl rfl (Nat.le_of_ble_eq_true rfl) ⟨Nat.le_of_ble_eq_true rfl, Nat.le_of_ble_eq_true rfl⟩ ⟨Nat.le_of_ble_eq_true rfl, Nat.le_of_ble_eq_true rfl⟩ dX5_writes_103 (fun i20 h20 q20 => ?_)
              obtain ⟨e20, f20, hm20, hT20⟩ := q20; subst e20
              rw [insS_fin] at hT20
              have hle20 : (((txJ S) ++ [65]) ++ dgl nn).length = ((txJ S) ++ [65]).length + sb_dg nn := by rw [List.length_append, dgl_len]
              rw [upN_s] at hm20
              have hm20b : MR G h0 h20 m ad (upN ns 15 (((txJ S) ++ [65]) ++ dgl nn).length) (up2 (up2 na 16 (upN g S.length ((txJ S).length))) 14 f20) ia la := by
                  have q := hm20
                  rw [upN_upN, up2_up2] at q
                  rw [hle20]; exact q
              have ha20 : asc (((txJ S) ++ [65]) ++ dgl nn) := asc_app ha19 (dgl_asc nn)
              refine v_pop C dX5_writes_106 rfl ?_
              refine v_goto (tgt := 218) C dX5_writes_107 (by decide) ?_
              refine v_iinc C 3 [(3, .int (nI (k + 1))), (2, .int (nI (S.length + 1))), (5, .int (nI nn)), (4, .int (nI kk)), (1, .int (nI D)), (0, .ref m)] rfl (nI_inc k 1 (by decide)) rfl (by decide) dX5_writes_218 ?_
              refine v_goto (tgt := 9) C dX5_writes_221 (by decide) ?_
              refine v_lvp [0, 1, 4, 5] rfl ?_
              have hstx : stx kk nn S = ([65] ++ dgl nn) :: S := by unfold stx; rw [if_pos y4]
              rw [← hk1, ← hk2, hstx] at hto2
              have hS2 : ([65] ++ dgl nn) :: S = txs (T.take (k + 1)) [] := by
                  rw [take_snoc hkl, txs_app, ← hS]; show _ = stx (T.getD k (0, 0)).1 (T.getD k (0, 0)).2 S; rw [← hk1, ← hk2, hstx]
              have hl2 : (([65] ++ dgl nn) :: S).length = S.length + 1 := rfl
              have hmq := hm20b
              have hTe : (((txJ S) ++ [65]) ++ dgl nn) = txJ (([65] ++ dgl nn) :: S) := List.append_assoc _ _ _
              rw [hTe] at hmq
              have hfq : txA f20 (txJ (([65] ++ dgl nn) :: S)) := by rw [← hTe]; exact hT20
              exact ih2 (k + 1) (([65] ++ dgl nn) :: S) _ _ h20 (by omega) hmq hS2 hfq ⟨upN_s, hg.frame (fun j hj => upN_n (by omega))⟩ (by rw [hl2]; exact hro2.2) (by rw [hl2]; omega) hto2 (by rw [← hTe]; exact ha20) (by omega)
        · rw [zb_f c8] at e8; subst e8
          have z46n := (not_congr (wth_46 (by omega))).mp c8
          refine v_if_eq (tgt := 110) C dX5_writes_53 (by decide) (fun c22 => ?_) (fun c22 => absurd c22 (by decide))
          refine v_iload C 1 rfl dX5_writes_110 ?_
          refine v_iconst (v := 4) C dX5_writes_112 (by decide) ?_
          refine v_icmp_ge (tgt := 142) C dX5_writes_113 (by decide) (fun c23 => ?_) (fun c23 => ?_)
          · have c23 := (nk_ge (a := kk) 4 (by decide) (by omega) (by decide)).mp c23
            have z7 : 7 ≤ kk := by omega
            have hro2 := rok_o hro hkl (by rw [← hk1]; exact z7)
            have hro3 := hro2.1
            obtain ⟨A, X, hSe⟩ := one_of hro2.1
            have hg1 : g (S.length - 1) = (txJ X).length := by rw [hSe] at hg ⊢; exact hg.1
            have hjX : txJ S = txJ X ++ A := by rw [hSe]; rfl
            have hac3 := hac; rw [hjX] at hac3
            have hlX : (txJ S).length = (txJ X).length + A.length := by rw [hjX, List.length_append]
            refine v_iload C 1 rfl dX5_writes_142 ?_
            refine v_bipush (v := 7) C dX5_writes_144 (by decide) ?_
            refine v_icmp_ne (tgt := 185) C dX5_writes_146 (by decide) (fun c24 => ?_) (fun c24 => ?_)
            · have c24 := (nk_ne (a := kk) 7 (by decide) (by omega) (by decide)).mp c24
              have y7 : kk = 8 := by omega
              refine v_aload_n C 5 rfl dX5_writes_185 rfl ?_
              refine v_aload_n C 5 rfl dX5_writes_186 rfl ?_
              refine v_get (v := .ref (ad 16)) C F_X5_48 hm2.1 rfl dX5_writes_187 ?_
              refine v_iload_n C 3 rfl dX5_writes_190 rfl ?_
              refine v_iconst (v := 1) C dX5_writes_191 (by decide) ?_
              refine v_isub C dX5_writes_192 (v_eqi (nI_sbk (a := S.length) 1 (by decide) (by omega)) ?_)
              refine v_iald C (hm2.2.1 16 rfl) (vpin (show (S.length - 1) < 16 by omega) (by decide)) dX5_writes_193 (v_eqi (y := nI (g (S.length - 1))) (congrArg (fun j => nI (g j)) (nI_clamp (show (S.length - 1) < 2 ^ 31 by omega))) ?_)
              refine v_eqi (congrArg nI hg1) ?_
              refine v_bipush (v := 121) C dX5_writes_194 (by decide) ?_
              refine v_bipush (v := 101) C dX5_writes_196 (by decide) ?_
              refine v_bipush (v := 97) C dX5_writes_198 (by decide) ?_
              refine v_bipush (v := 114) C dX5_writes_200 (by decide) ?_
              refine v_bipush (v := 40) C dX5_writes_202 (by decide) ?_
              refine v_callV (rest := []) C (c_X5_insertsWord l hl G m ad (upN ns 15 (txJ S).length) (up2 (up2 na 16 g) 14 f) ia la h0 (txJ X).length 121 101 97 114 40 (txJ S) h2 hm2 hf upN_s (by omega) (by omega) hac (by decide)) K_X5_167 hm2.1 rfl rfl (Nat.le_of_ble_eq_true rfl) ⟨Nat.le_of_ble_eq_true rfl, Nat.le_of_ble_eq_true rfl⟩ ⟨Nat.le_of_ble_eq_true rfl, Nat.le_of_ble_eq_true rfl⟩ dX5_writes_204 (fun i26 h26 q26 => ?_)
              obtain ⟨e26, f26, hm26, hT26⟩ := q26; subst e26
              rw [hjX, insS_mid] at hT26
              have hle26 : (txJ X ++ ([121, 101, 97, 114, 40] ++ A)).length = (txJ S).length + 5 := by simp only [List.length_append, List.length_cons, List.length_nil]; omega
              rw [upN_s] at hm26
              have hm26b : MR G h0 h26 m ad (upN ns 15 (txJ X ++ ([121, 101, 97, 114, 40] ++ A)).length) (up2 (up2 na 16 g) 14 f26) ia la := by
                  have q := hm26
                  rw [upN_upN, up2_up2] at q
                  rw [hle26]; exact q
              have ha26 : asc (txJ X ++ ([121, 101, 97, 114, 40] ++ A)) := asc_app (asc_ap hac3).1 (asc_app (asc_lit rfl) (asc_ap hac3).2)
              refine v_pop C dX5_writes_207 rfl ?_
              refine v_aload_n C 5 rfl dX5_writes_208 rfl ?_
              refine v_aload_n C 5 rfl dX5_writes_209 rfl ?_
              refine v_get (v := .int (nI ((txJ X ++ ([121, 101, 97, 114, 40] ++ A)).length))) C F_X5_154 hm26b.1 rfl dX5_writes_210 ?_
              refine v_bipush (v := 41) C dX5_writes_213 (by decide) ?_
              refine v_callV (rest := []) C (c_X5_inserts l hl G m ad (upN ns 15 (txJ X ++ ([121, 101, 97, 114, 40] ++ A)).length) (up2 (up2 na 16 g) 14 f26) ia la h0 (txJ X ++ ([121, 101, 97, 114, 40] ++ A)).length 41 (txJ X ++ ([121, 101, 97, 114, 40] ++ A)) h26 hm26b hT26 upN_s (Nat.le_refl _) (by omega) ha26 (by decide)) K_X5_157 hm26b.1 rfl rfl (Nat.le_of_ble_eq_true rfl) ⟨Nat.le_of_ble_eq_true rfl, Nat.le_of_ble_eq_true rfl⟩ ⟨Nat.le_of_ble_eq_true rfl, Nat.le_of_ble_eq_true rfl⟩ dX5_writes_215 (fun _ h27 q27 => ?_)
              obtain ⟨f27, hm27, hT27⟩ := q27
              rw [insL_at (P := (txJ X ++ ([121, 101, 97, 114, 40] ++ A))) (Q := []) (List.append_nil _).symm rfl] at hT27
              have hle27 : ((txJ X ++ ([121, 101, 97, 114, 40] ++ A)) ++ [41]).length = (txJ X ++ ([121, 101, 97, 114, 40] ++ A)).length + 1 := List.length_append
              rw [upN_s] at hm27
              have hm27b : MR G h0 h27 m ad (upN ns 15 ((txJ X ++ ([121, 101, 97, 114, 40] ++ A)) ++ [41]).length) (up2 (up2 na 16 g) 14 f27) ia la := by
                  have q := hm27
                  rw [upN_upN, up2_up2] at q
                  rw [hle27]; exact q
              have ha27 : asc ((txJ X ++ ([121, 101, 97, 114, 40] ++ A)) ++ [41]) := asc_app ha26 (asc_lit rfl)
              have hl27 : ((txJ X ++ ([121, 101, 97, 114, 40] ++ A)) ++ [41]).length ≤ 700 := by omega
              refine v_iinc C 2 [(3, .int (nI (k + 1))), (5, .int (nI nn)), (4, .int (nI kk)), (2, .int (nI S.length)), (1, .int (nI D)), (0, .ref m)] rfl (nI_inc k 1 (by decide)) rfl (by decide) dX5_writes_218 ?_
              refine v_goto (tgt := 9) C dX5_writes_221 (by decide) ?_
              refine v_lvp [0, 3, 4, 5] rfl ?_
              have hstx : stx kk nn S = ([121, 101, 97, 114, 40] ++ A ++ [41]) :: X := by rw [hSe]; unfold stx; rw [if_neg (by omega), if_neg (by omega), if_neg (by omega), if_neg (by omega), if_pos y7]; rfl
              rw [← hk1, ← hk2, hstx] at hto2
              have hS2 : ([121, 101, 97, 114, 40] ++ A ++ [41]) :: X = txs (T.take (k + 1)) [] := by
                  rw [take_snoc hkl, txs_app, ← hS]; show _ = stx (T.getD k (0, 0)).1 (T.getD k (0, 0)).2 S; rw [← hk1, ← hk2, hstx]
              have hl2 : (([121, 101, 97, 114, 40] ++ A ++ [41]) :: X).length = S.length := by rw [hSe]; rfl
              have hmq := hm27b
              have hTe : ((txJ X ++ ([121, 101, 97, 114, 40] ++ A)) ++ [41]) = txJ (([121, 101, 97, 114, 40] ++ A ++ [41]) :: X) := (by show _ = txJ X ++ ([121, 101, 97, 114, 40] ++ A ++ [41]); simp only [List.append_assoc])
              rw [hTe] at hmq
              have hfq : txA f27 (txJ (([121, 101, 97, 114, 40] ++ A ++ [41]) :: X)) := by rw [← hTe]; exact hT27
              rw [← hl2]
              exact ih2 (k + 1) (([121, 101, 97, 114, 40] ++ A ++ [41]) :: X) _ _ h27 (by omega) hmq hS2 hfq (by rw [hSe] at hg; exact hg) (by rw [hl2]; exact hro2.2) (by rw [hl2]; omega) hto2 (asc_app (asc_ap hac3).1 (asc_app (asc_app (asc_lit rfl) (asc_ap hac3).2) (asc_lit rfl))) (by omega)
            · have c24 := (nk_ne_f (a := kk) 7 (by decide) (by omega) (by decide)).mp c24
              have y7 : kk = 7 := by omega
              refine v_aload_n C 5 rfl dX5_writes_149 rfl ?_
              refine v_aload_n C 5 rfl dX5_writes_150 rfl ?_
              refine v_get (v := .ref (ad 16)) C F_X5_48 hm2.1 rfl dX5_writes_151 ?_
              refine v_iload_n C 3 rfl dX5_writes_154 rfl ?_
              refine v_iconst (v := 1) C dX5_writes_155 (by decide) ?_
              refine v_isub C dX5_writes_156 (v_eqi (nI_sbk (a := S.length) 1 (by decide) (by omega)) ?_)
              refine v_iald C (hm2.2.1 16 rfl) (vpin (show (S.length - 1) < 16 by omega) (by decide)) dX5_writes_157 (v_eqi (y := nI (g (S.length - 1))) (congrArg (fun j => nI (g j)) (nI_clamp (show (S.length - 1) < 2 ^ 31 by omega))) ?_)
              refine v_eqi (congrArg nI hg1) ?_
              refine v_iload C 0 rfl dX5_writes_158 ?_
              refine v_callV (rest := []) C (c_X5_insertsNumber l hl G m ad (upN ns 15 (txJ S).length) (up2 (up2 na 16 g) 14 f) ia la h0 (txJ X).length nn (txJ S) h2 hm2 hf upN_s (by omega) (by omega) hac hnb) K_X5_161 hm2.1 rfl rfl (Nat.le_of_ble_eq_true rfl) ⟨Nat.le_of_ble_eq_true rfl, Nat.le_of_ble_eq_true rfl⟩ ⟨Nat.le_of_ble_eq_true rfl, Nat.le_of_ble_eq_true rfl⟩ dX5_writes_160 (fun i30 h30 q30 => ?_)
              obtain ⟨e30, f30, hm30, hT30⟩ := q30; subst e30
              rw [hjX, insS_mid] at hT30
              have hle30 : (txJ X ++ (dgl nn ++ A)).length = (txJ S).length + sb_dg nn := by rw [List.length_append, List.length_append, dgl_len, hlX]; omega
              rw [upN_s] at hm30
              have hm30b : MR G h0 h30 m ad (upN ns 15 (txJ X ++ (dgl nn ++ A)).length) (up2 (up2 na 16 g) 14 f30) ia la := by
                  have q := hm30
                  rw [upN_upN, up2_up2] at q
                  rw [hle30]; exact q
              have ha30 : asc (txJ X ++ (dgl nn ++ A)) := asc_app (asc_ap hac3).1 (asc_app (dgl_asc nn) (asc_ap hac3).2)
              have hdg := dg_le7 hnb
              refine v_istore C [(6, .int (nI ((txJ X).length + sb_dg nn))), (5, .int (nI nn)), (4, .int (nI kk)), (3, .int (nI k)), (2, .int (nI S.length)), (1, .int (nI D)), (0, .ref m)] rfl (by decide) dX5_writes_163 ?_
              refine v_aload_n C 6 rfl dX5_writes_165 rfl ?_
              refine v_iload C 0 rfl dX5_writes_166 ?_
              refine v_bipush (v := 37) C dX5_writes_168 (by decide) ?_
              refine v_bipush (v := 32) C dX5_writes_170 (by decide) ?_
              refine v_bipush (v := 111) C dX5_writes_172 (by decide) ?_
              refine v_bipush (v := 102) C dX5_writes_174 (by decide) ?_
              refine v_bipush (v := 32) C dX5_writes_176 (by decide) ?_
              refine v_callV (rest := []) C (c_X5_insertsWord l hl G m ad (upN ns 15 (txJ X ++ (dgl nn ++ A)).length) (up2 (up2 na 16 g) 14 f30) ia la h0 ((txJ X).length + sb_dg nn) 37 32 111 102 32 (txJ X ++ (dgl nn ++ A)) h30 hm30b hT30 upN_s (by omega) (by omega) ha30 (by decide)) K_X5_167 hm30b.1 rfl rfl (Nat.le_of_ble_eq_true rfl) ⟨Nat.le_of_ble_eq_true rfl, Nat.le_of_ble_eq_true rfl⟩ ⟨Nat.le_of_ble_eq_true rfl, Nat.le_of_ble_eq_true rfl⟩ dX5_writes_178 (fun i31 h31 q31 => ?_)
              obtain ⟨e31, f31, hm31, hT31⟩ := q31; subst e31
              rw [show (txJ X).length + sb_dg nn = (txJ X ++ dgl nn).length by rw [List.length_append, dgl_len], ← List.append_assoc, insS_mid] at hT31
              have hle31 : ((txJ X ++ dgl nn) ++ ([37, 32, 111, 102, 32] ++ A)).length = (txJ X ++ (dgl nn ++ A)).length + 5 := by simp only [List.length_append, List.length_cons, List.length_nil]; omega
              rw [upN_s] at hm31
              have hm31b : MR G h0 h31 m ad (upN ns 15 ((txJ X ++ dgl nn) ++ ([37, 32, 111, 102, 32] ++ A)).length) (up2 (up2 na 16 g) 14 f31) ia la := by
                  have q := hm31
                  rw [upN_upN, up2_up2] at q
                  rw [hle31]; exact q
              refine v_pop C dX5_writes_181 rfl ?_
              refine v_goto (tgt := 218) C dX5_writes_182 (by decide) ?_
              refine v_iinc C 3 [(3, .int (nI (k + 1))), (6, .int (nI ((txJ X).length + sb_dg nn))), (5, .int (nI nn)), (4, .int (nI kk)), (2, .int (nI S.length)), (1, .int (nI D)), (0, .ref m)] rfl (nI_inc k 1 (by decide)) rfl (by decide) dX5_writes_218 ?_
              refine v_goto (tgt := 9) C dX5_writes_221 (by decide) ?_
              refine v_lvp [0, 4, 5, 6] rfl ?_
              have hstx : stx kk nn S = (dgl nn ++ [37, 32, 111, 102, 32] ++ A) :: X := by rw [hSe]; unfold stx; rw [if_neg (by omega), if_neg (by omega), if_neg (by omega), if_pos y7]; rfl
              rw [← hk1, ← hk2, hstx] at hto2
              have hS2 : (dgl nn ++ [37, 32, 111, 102, 32] ++ A) :: X = txs (T.take (k + 1)) [] := by
                  rw [take_snoc hkl, txs_app, ← hS]; show _ = stx (T.getD k (0, 0)).1 (T.getD k (0, 0)).2 S; rw [← hk1, ← hk2, hstx]
              have hl2 : ((dgl nn ++ [37, 32, 111, 102, 32] ++ A) :: X).length = S.length := by rw [hSe]; rfl
              have hmq := hm31b
              have hTe : ((txJ X ++ dgl nn) ++ ([37, 32, 111, 102, 32] ++ A)) = txJ ((dgl nn ++ [37, 32, 111, 102, 32] ++ A) :: X) := (by show _ = txJ X ++ (dgl nn ++ [37, 32, 111, 102, 32] ++ A); simp only [List.append_assoc])
              rw [hTe] at hmq
              have hfq : txA f31 (txJ ((dgl nn ++ [37, 32, 111, 102, 32] ++ A) :: X)) := by rw [← hTe]; exact hT31
              rw [← hl2]
              exact ih2 (k + 1) ((dgl nn ++ [37, 32, 111, 102, 32] ++ A) :: X) _ _ h31 (by omega) hmq hS2 hfq (by rw [hSe] at hg; exact hg) (by rw [hl2]; exact hro2.2) (by rw [hl2]; omega) hto2 (asc_app (asc_ap hac3).1 (asc_app (asc_app (dgl_asc nn) (asc_lit rfl)) (asc_ap hac3).2)) (by omega)
          · have c23 := (nk_ge_f (a := kk) 4 (by decide) (by omega) (by decide)).mp c23
            have zj : kk < 4 := by omega
            have hro2 := rok_j hro hkl (by rw [← hk1]; exact zj)
            obtain ⟨B, A, X, hSe⟩ := two_of hro2.1
            have hro3 := hro2.1
            have hg1 : g (S.length - 1 - 1) = (txJ X).length := by rw [hSe] at hg ⊢; exact hg.2.1
            have hg2 : g (S.length - 1) = (txJ X).length + A.length := by rw [hSe] at hg ⊢; exact hg.1.trans List.length_append
            have hjX : txJ S = txJ X ++ (A ++ B) := by rw [hSe]; exact List.append_assoc _ _ _
            have hac3 := hac; rw [hjX] at hac3
            refine v_iinc C 3 [(2, .int (nI (S.length - 1))), (5, .int (nI nn)), (4, .int (nI kk)), (3, .int (nI k)), (1, .int (nI D)), (0, .ref m)] rfl (nI_dec (p := S.length) (by omega)) rfl (by decide) dX5_writes_116 ?_
            refine v_aload_n C 5 rfl dX5_writes_119 rfl ?_
            refine v_iload C 2 rfl dX5_writes_120 ?_
            refine v_aload_n C 5 rfl dX5_writes_122 rfl ?_
            refine v_get (v := .ref (ad 16)) C F_X5_48 hm2.1 rfl dX5_writes_123 ?_
            refine v_iload_n C 0 rfl dX5_writes_126 rfl ?_
            refine v_iconst (v := 1) C dX5_writes_127 (by decide) ?_
            refine v_isub C dX5_writes_128 (v_eqi (nI_sbk (a := (S.length - 1)) 1 (by decide) (by omega)) ?_)
            refine v_iald C (hm2.2.1 16 rfl) (vpin (show ((S.length - 1) - 1) < 16 by omega) (by decide)) dX5_writes_129 (v_eqi (y := nI (g ((S.length - 1) - 1))) (congrArg (fun j => nI (g j)) (nI_clamp (show ((S.length - 1) - 1) < 2 ^ 31 by omega))) ?_)
            refine v_eqi (congrArg nI hg1) ?_
            refine v_aload_n C 5 rfl dX5_writes_130 rfl ?_
            refine v_get (v := .ref (ad 16)) C F_X5_48 hm2.1 rfl dX5_writes_131 ?_
            refine v_iload_n C 0 rfl dX5_writes_134 rfl ?_
            refine v_iald C (hm2.2.1 16 rfl) (vpin (show (S.length - 1) < 16 by omega) (by decide)) dX5_writes_135 (v_eqi (y := nI (g (S.length - 1))) (congrArg (fun j => nI (g j)) (nI_clamp (show (S.length - 1) < 2 ^ 31 by omega))) ?_)
            refine v_eqi (congrArg nI hg2) ?_
            refine v_callV (rest := []) C (c_X5_joinsText l hl G m ad (upN ns 15 (txJ S).length) (up2 (up2 na 16 g) 14 f) ia la h0 kk (txJ X) A B h2 hm2 zj (by rw [← hjX]; exact hf) (by rw [← hjX]; exact upN_s) (by rw [← hjX]; omega) hac3) K_X5_164 hm2.1 rfl rfl (Nat.le_of_ble_eq_true rfl) ⟨Nat.le_of_ble_eq_true rfl, Nat.le_of_ble_eq_true rfl⟩ ⟨Nat.le_of_ble_eq_true rfl, Nat.le_of_ble_eq_true rfl⟩ dX5_writes_136 (fun _ h35 q35 => ?_)
            obtain ⟨f35, n35, hm35, hle35, hT35⟩ := q35; subst hle35
            have hle35 : (txJ X ++ sjt kk A B).length = (txJ X ++ sjt kk A B).length := rfl
            have hm35b : MR G h0 h35 m ad (upN ns 15 (txJ X ++ sjt kk A B).length) (up2 (up2 na 16 g) 14 f35) ia la := by
                have q := hm35
                rw [upN_upN, up2_up2] at q
                rw [hle35]; exact q
            refine v_goto (tgt := 218) C dX5_writes_139 (by decide) ?_
            refine v_iinc C 3 [(3, .int (nI (k + 1))), (2, .int (nI (S.length - 1))), (5, .int (nI nn)), (4, .int (nI kk)), (1, .int (nI D)), (0, .ref m)] rfl (nI_inc k 1 (by decide)) rfl (by decide) dX5_writes_218 ?_
            refine v_goto (tgt := 9) C dX5_writes_221 (by decide) ?_
            refine v_lvp [0, 1, 4, 5] rfl ?_
            have hstx : stx kk nn S = sjt kk A B :: X := by rw [hSe]; unfold stx; rw [if_neg (by omega), if_neg (by omega), if_neg (by omega), if_neg (by omega), if_neg (by omega)]; rfl
            rw [← hk1, ← hk2, hstx] at hto2
            have hS2 : sjt kk A B :: X = txs (T.take (k + 1)) [] := by
                rw [take_snoc hkl, txs_app, ← hS]; show _ = stx (T.getD k (0, 0)).1 (T.getD k (0, 0)).2 S; rw [← hk1, ← hk2, hstx]
            have hl2 : (sjt kk A B :: X).length = S.length - 1 := by rw [hSe]; rfl
            have hmq := hm35b
            have hTe : (txJ X ++ sjt kk A B) = txJ (sjt kk A B :: X) := rfl
            rw [hTe] at hmq
            have hfq : txA f35 (txJ (sjt kk A B :: X)) := by rw [← hTe]; exact hT35
            rw [← hl2]
            exact ih2 (k + 1) (sjt kk A B :: X) _ _ h35 (by omega) hmq hS2 hfq (by rw [hSe] at hg; exact ⟨hg.2.1, hg.2.2⟩) (by rw [hl2]; exact hro2.2) (by rw [hl2]; omega) hto2 (asc_app (asc_ap hac3).1 (asc_sjt kk (asc_ap (asc_ap hac3).2).1 (asc_ap (asc_ap hac3).2).2)) (by omega)
  refine v_lvp [0, 1, 3, 2] rfl ?_
  have hmz : MR G h0 h1 m ad (upN ns 15 (txJ []).length) (up2 (up2 na 16 (na 16)) 14 (na 14)) ia la := by rw [up2_id, up2_id]; exact hm1
  exact L2 (T.length + 1) 0 [] (na 14) (na 16) h1 (Nat.zero_le _) hmz rfl (fun j hj => absurd hj (Nat.not_lt_zero _)) trivial (by rw [List.drop_zero]; exact hrok) (Nat.zero_le _) (by rw [List.drop_zero]; exact htok) (fun c hc => absurd hc List.not_mem_nil) (by omega)

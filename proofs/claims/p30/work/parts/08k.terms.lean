theorem tx_pos {tl : Nat → Nat} {n : Nat} {t : List Tok} (h : WL tl n t) : 1 ≤ (txtOf t).length := by
  cases n with
  | zero => exact absurd h id
  | succ n =>
    rcases h with ⟨k, h1, rfl⟩ | ⟨k, h1, rfl⟩ | ⟨k, h1, h2, h3, rfl⟩ | ⟨k, a, b, h1, h2, h3, rfl⟩ | ⟨p, a, h1, h2, rfl⟩ | ⟨a, h1, rfl⟩
    · rw [tx4 h1]; exact Nat.le_add_left _ _
    · rw [tx5, dgl_len]; exact (sb_dg_in k).1
    · rw [tx6 h1]; exact Nat.le_add_left _ _
    · rw [txt_join h2 h3 h1, sjt_ln h1]; split <;> omega
    · rw [txt_share h2]; simp only [List.length_append, List.length_cons, List.length_nil]; omega
    · rw [txt_year h1]; simp only [List.length_append, List.length_cons, List.length_nil]; omega
section
variable {s : ZS} {k q j : Nat}
theorem k_isT (h : k < oN s) (hN : oN s ≤ 10) : kIsT s (nI k) = 0 := if_pos ((inN_nI (by omega) (by omega)).mpr h)
theorem k_isTQ (h : k < oN s) (hN : oN s ≤ 10) (hq : q < 20) : kIsTQ s (nI k) (nI q) = 0 := if_pos ⟨(inN_nI (by omega) (by omega)).mpr h, (inN_nI (by omega) (by decide)).mpr hq⟩
theorem k_val1 {y : Int32} (h : oN s ≤ k) (hk : k ≤ 10) (hN : oN s ≤ 10) : kIsTQ s (nI k) y = 1 := if_neg (fun z => absurd ((inN_nI (by omega) (by omega)).mp z.1) (by omega))
theorem k_chr (h : k < oN s) (hN : oN s ≤ 10) (hq : q < 20) {X : List Nat} (hX : txtOf (tHeld s k q) = X) (hl : X.length ≤ 441) (hj : j < X.length) : kChar s (nI k) (nI q) (nI j) = 0 := by
  unfold kChar
  rw [if_pos ⟨(inN_nI (by omega) (by omega)).mpr h, (inN_nI (by omega) (by decide)).mpr hq⟩, cl_nI (show k < 2 ^ 31 by omega), cl_nI (show q < 2 ^ 31 by omega), hX, if_pos ((inN_nI (by omega) (by omega)).mpr hj)]
theorem k_chr1 (h : k < oN s) (hN : oN s ≤ 10) (hq : q < 20) {X : List Nat} (hX : txtOf (tHeld s k q) = X) (hl : X.length ≤ 441) : kChar s (nI k) (nI q) (nI X.length) = 1 := by
  unfold kChar
  rw [if_pos ⟨(inN_nI (by omega) (by omega)).mpr h, (inN_nI (by omega) (by decide)).mpr hq⟩, cl_nI (show k < 2 ^ 31 by omega), cl_nI (show q < 2 ^ 31 by omega), hX, if_neg (fun z => absurd ((inN_nI (by omega) (by omega)).mp z) (by omega))]
end
set_option maxHeartbeats 4000000 in
set_option maxRecDepth 100000 in
theorem c_L_terms (l : Launch) (hl : l.stackTraces = false) (G : zG) (q p : Nat) (x N : Nat) (ad : Nat → Nat) (g : XGh) (s : ZS) (F : Nat → Nat) (A D : Nat → Int32) (VV : Nat → Nat) (B U : Nat → Int32) (S : Nat → Nat) (T : Nat → List Tok) (lv : Nat → Nat) (h : zH) (hi : XI G h g x s) (hw : WFs s) (lw : LW G h g ad F A D VV B U S) (he : EV s F A D T lv N) (hV : ∀ t, t < oN s → VV t = oL s t) (hq : q < 9) (hp : p < 2 ^ 30) : zMetP zNc eI l yL_terms cL_terms 12 (some .boolean) 20 400 8000 G [.ref x, .int (nI (oN s)), .ref (ad 3), .ref (ad 0), .ref (ad 1), .ref (ad 2), .int (nI q), .int (nI p)] h (fun r h2 => r = 1 ∧ ∃ g2, XI G h2 g2 x s ∧ XFr g g2 h h2) := by
  refine con_ofP hl RL rfl (by decide +kernel) [(0, .ref x), (1, .int (nI (oN s))), (2, .ref (ad 3)), (3, .ref (ad 0)), (4, .ref (ad 1)), (5, .ref (ad 2)), (6, .int (nI q)), (7, .int (nI p))] rfl (Nat.le_of_ble_eq_true rfl) ?_
  intro zp ze zs zm zargs zbelow zmeth zc C hr hin hNc Q hQ
  have hN6 := he.2.1
  have hM := he.1
  have fr0 : XFr g g h h := fun b e hb hr => ⟨hb, hr⟩
  refine v_iconst (v := 0) C dL_terms_0 (by decide) ?_
  refine v_istore C [(8, .int 0), (0, .ref x), (1, .int (nI (oN s))), (2, .ref (ad 3)), (3, .ref (ad 0)), (4, .ref (ad 1)), (5, .ref (ad 2)), (6, .int (nI q)), (7, .int (nI p))] rfl (by decide) dL_terms_1 ?_
  have L1 : ∀ (d : Nat) (k : Nat) (g2 : XGh) (h2 : zH), (k ≤ oN s) → (XI G h2 g2 x s) → (XFr g g2 h h2) → (LW G h2 g2 ad F A D VV B U S) → (oN s < k + d) → V zp l ze (rmm 20 400 8000) zs zm zargs zbelow zmeth zc G 12 Q h2 (60 * k) (1200 * k) 3 [(8, .int (nI k)), (0, .ref x), (1, .int (nI (oN s))), (2, .ref (ad 3)), (3, .ref (ad 0)), (4, .ref (ad 1)), (5, .ref (ad 2)), (6, .int (nI q)), (7, .int (nI p))] [] := by
    intro d
    induction d with
    | zero =>
      intro k g2 h2 hk xi2 fr2 lw2 hd
      exact absurd hd (by omega)
    | succ d ih1 =>
      intro k g2 h2 hk xi2 fr2 lw2 hd
      refine v_iload C 0 rfl dL_terms_3 ?_
      refine v_iload_n C 2 rfl dL_terms_5 rfl ?_
      refine v_icmp_ge (tgt := 155) C dL_terms_6 (by decide) (fun c2 => ?_) (fun c2 => ?_)
      · have c2 := (nn_ge (a := k) (b := (oN s)) (by omega) (by omega)).mp c2
        refine v_aload_n C 1 rfl dL_terms_155 rfl ?_
        refine v_callV (rest := []) C (c_X4_terms l hl G x g2 s h2 xi2) K_L_170 xi2.1.1.1 rfl rfl (Nat.le_of_ble_eq_true rfl) ⟨Nat.le_of_ble_eq_true rfl, Nat.le_of_ble_eq_true rfl⟩ ⟨by show 60 * k + 0 ≤ 400; omega, by show 1200 * k + 0 ≤ 8000; omega⟩ dL_terms_156 (fun r3 h3 w3 => ?_)
        obtain ⟨e3, rfl⟩ := w3; subst e3
        refine v_iload_n C 2 rfl dL_terms_159 rfl ?_
        refine v_icmp_ne (tgt := 180) C dL_terms_160 (by decide) (fun c4 => absurd rfl c4) (fun c4 => ?_)
        refine v_aload_n C 1 rfl dL_terms_163 rfl ?_
        refine v_bipush (v := 10) C dL_terms_164 (by decide) ?_
        refine v_iload_n C 2 rfl dL_terms_166 rfl ?_
        refine v_iconst (v := 0) C dL_terms_167 (by decide) ?_
        refine v_iconst (v := 0) C dL_terms_168 (by decide) ?_
        refine v_callL (rest := []) C hNc (c_L_refused_value_1 l hl G x g2 s (nI (oN s)) 0 0 h2 xi2 hw (k_val1 (Nat.le_refl _) (by omega) (by omega))) CL_L_151 rfl rfl (Nat.le_of_ble_eq_true rfl) ⟨Nat.le_of_ble_eq_true rfl, Nat.le_of_ble_eq_true rfl⟩ ⟨by show 60 * k + 0 + 10 ≤ 400; omega, by show 1200 * k + 0 + 200 ≤ 8000; omega⟩ dL_terms_169 (fun r5 h5 w5 => ?_)
        obtain ⟨e5, rfl⟩ := w5; subst e5
        refine v_iconst (v := 1) C dL_terms_172 (by decide) ?_
        refine v_icmp_ne (tgt := 180) C dL_terms_173 (by decide) (fun c6 => absurd c6 (by decide)) (fun c6 => ?_)
        refine v_iconst (v := 1) C dL_terms_176 (by decide) ?_
        refine v_goto (tgt := 181) C dL_terms_177 (by decide) ?_
        exact v_iret C hQ hr rfl (by show 60 * k + 0 + 10 ≤ 400; omega) (by show 1200 * k + 0 + 200 ≤ 8000; omega) dL_terms_181 ⟨rfl, g2, xi2, fr2⟩
      · have c2 := (nn_ge_f (a := k) (b := (oN s)) (by omega) (by omega)).mp c2
        refine v_iload C 0 rfl dL_terms_9 ?_
        refine v_iload C 7 rfl dL_terms_11 ?_
        refine v_aload C 6 rfl dL_terms_13 ?_
        obtain ⟨k2, hk2, hh2, hv2, ht2, ho2⟩ := he.held hw (show k < oN s by omega) (q := q) (by omega)
        have hX : txtOf (tHeld s k q) = txtOf (T k2) := by rw [ht2]
        have hxl := (he.w6 hw hk2).txl6 (Nat.le_refl _)
        have hxp := tx_pos (he.w6 hw hk2)
        generalize hXX : txtOf (T k2) = X at hX hxl hxp
        refine v_callS (rest := []) C (c_L_holds l hl G k q (ad 2) D h2 lw2.1.2.2.1 (by omega) (by omega) (EV.d0 he hw (by omega))) S_L_26 rfl rfl (Nat.le_of_ble_eq_true rfl) ⟨Nat.le_of_ble_eq_true rfl, Nat.le_of_ble_eq_true rfl⟩ ⟨by show 60 * k + 0 ≤ 400; omega, by show 1200 * k + 0 ≤ 8000; omega⟩ dL_terms_15 (fun i7 h7 q7 => ?_)
        obtain ⟨e7, rfl⟩ := q7; rw [hh2] at e7; subst e7
        refine v_istore C [(9, .int (nI k2)), (8, .int (nI k)), (0, .ref x), (1, .int (nI (oN s))), (2, .ref (ad 3)), (3, .ref (ad 0)), (4, .ref (ad 1)), (5, .ref (ad 2)), (6, .int (nI q)), (7, .int (nI p))] rfl (by decide) dL_terms_18 ?_
        refine v_iload C 0 rfl dL_terms_20 ?_
        refine v_aload_n C 5 rfl dL_terms_22 rfl ?_
        refine v_callS (rest := []) C (c_L_length6 l hl G (ad 0) k2 N F A D T lv s h2 hw he lw2.1.1 hk2 (he.2.2.1 k2 hk2).2.1) S_L_158 rfl rfl (Nat.le_of_ble_eq_true rfl) ⟨Nat.le_of_ble_eq_true rfl, Nat.le_of_ble_eq_true rfl⟩ ⟨by show 60 * k + 0 + 0 ≤ 400; omega, by show 1200 * k + 0 + 0 ≤ 8000; omega⟩ dL_terms_23 (fun i8 h8 q8 => ?_)
        obtain ⟨e8, rfl⟩ := q8; rw [hXX] at e8; subst e8
        refine v_istore C [(10, .int (nI X.length)), (9, .int (nI k2)), (8, .int (nI k)), (0, .ref x), (1, .int (nI (oN s))), (2, .ref (ad 3)), (3, .ref (ad 0)), (4, .ref (ad 1)), (5, .ref (ad 2)), (6, .int (nI q)), (7, .int (nI p))] rfl (by decide) dL_terms_26 ?_
        refine v_iload C 10 rfl dL_terms_28 ?_
        refine v_iload C 0 rfl dL_terms_30 ?_
        refine v_irem C dL_terms_32 (fun z => absurd ((nk_eq (a := X.length) 0 (by decide) (by omega) (by decide)).mp z) (by omega)) (v_eqi (y := (nI (p % X.length))) (pk_rem (by omega) (by omega) (by omega)) ?_)
        have hpm := Nat.mod_lt p (show 0 < X.length by omega)
        refine v_istore C [(11, .int (nI (p % X.length))), (10, .int (nI X.length)), (9, .int (nI k2)), (8, .int (nI k)), (0, .ref x), (1, .int (nI (oN s))), (2, .ref (ad 3)), (3, .ref (ad 0)), (4, .ref (ad 1)), (5, .ref (ad 2)), (6, .int (nI q)), (7, .int (nI p))] rfl (by decide) dL_terms_33 ?_
        refine v_aload_n C 4 rfl dL_terms_35 rfl ?_
        refine v_iload C 3 rfl dL_terms_36 ?_
        refine v_callVX (rest := []) C (c_X4_level l hl G x g2 s (nI k) h2 xi2 hw) K_L_161 xi2.1.1.1 rfl rfl (Nat.le_of_ble_eq_true rfl) ⟨Nat.le_of_ble_eq_true rfl, Nat.le_of_ble_eq_true rfl⟩ ⟨by show 60 * k + 0 + 0 + 10 ≤ 400; omega, by show 1200 * k + 0 + 0 + 200 ≤ 8000; omega⟩ dL_terms_38 (fun r10 h10 w10 => ?_) (fun E10 h10 w10 => ?_)
        · obtain ⟨-, er10, g10, xi10, fz10⟩ := w10
          have lw10 := lw2.fr fz10
          have fr10 := fr2.trans fz10
          replace er10 := er10.trans (by rw [cl_nI (show k < 2 ^ 31 by omega)])
          subst er10
          refine v_aload_n C 6 rfl dL_terms_41 rfl ?_
          refine v_iload C 3 rfl dL_terms_42 ?_
          refine v_iald C lw10.1.2.2.2.1 (vpin (show k < 6 by omega) (by decide)) dL_terms_44 (v_eqi (y := nI (oL s k)) ((congrArg (fun j => nI (VV j)) (nI_clamp (show k < 2 ^ 31 by omega))).trans (congrArg nI (hV k (by omega)))) ?_)
          refine v_icmp_ne (tgt := 147) C dL_terms_45 (by decide) (fun c11 => absurd rfl c11) (fun c11 => ?_)
          refine v_aload_n C 4 rfl dL_terms_48 rfl ?_
          refine v_iload C 3 rfl dL_terms_49 ?_
          refine v_iload C 10 rfl dL_terms_51 ?_
          refine v_callVX (rest := []) C (c_X4_value l hl G x g10 s (nI k) (nI q) h10 xi10 hw) K_L_125 xi10.1.1.1 rfl rfl (Nat.le_of_ble_eq_true rfl) ⟨Nat.le_of_ble_eq_true rfl, Nat.le_of_ble_eq_true rfl⟩ ⟨by show 60 * k + 0 + 0 + 10 + 10 ≤ 400; omega, by show 1200 * k + 0 + 0 + 200 + 200 ≤ 8000; omega⟩ dL_terms_53 (fun r12 h12 w12 => ?_) (fun E12 h12 w12 => ?_)
          · obtain ⟨-, er12, g12, xi12, fz12⟩ := w12
            have lw12 := lw10.fr fz12
            have fr12 := fr10.trans fz12
            replace er12 := er12.trans (by rw [cl_nI (show k < 2 ^ 31 by omega), cl_nI (show q < 2 ^ 31 by omega)])
            subst er12
            refine v_iload C 3 rfl dL_terms_56 ?_
            refine v_iload C 10 rfl dL_terms_58 ?_
            refine v_aload_n C 7 rfl dL_terms_60 rfl ?_
            refine v_aload C 8 rfl dL_terms_61 ?_
            refine v_aload C 9 rfl dL_terms_63 ?_
            refine v_callS (rest := [.long (oV s k q)]) C (c_L_value l hl G (ad 0) (ad 1) (ad 2) k q N F A D T lv s h12 hw he lw12.1.1 lw12.1.2.1 lw12.1.2.2.1 (by omega) (by omega)) S_L_138 rfl rfl (Nat.le_of_ble_eq_true rfl) ⟨Nat.le_of_ble_eq_true rfl, Nat.le_of_ble_eq_true rfl⟩ ⟨by show 60 * k + 0 + 0 + 10 + 10 + 0 ≤ 400; omega, by show 1200 * k + 0 + 0 + 200 + 200 + 0 ≤ 8000; omega⟩ dL_terms_65 (fun l13 h13 q13 => ?_)
            obtain ⟨e13, rfl⟩ := q13; subst e13
            refine v_lcmp C dL_terms_68 ?_
            refine v_if_ne (tgt := 147) C dL_terms_69 (by decide) (fun c14 => absurd ((lgc_eq _ _).mpr rfl) c14) (fun c14 => ?_)
            have c14 := (lgc_ne_f (oV s k q) (oV s k q)).mp c14
            refine v_aload_n C 4 rfl dL_terms_72 rfl ?_
            refine v_iload C 3 rfl dL_terms_73 ?_
            refine v_iload C 10 rfl dL_terms_75 ?_
            refine v_callVX (rest := []) C (c_X4_textLength l hl G x g12 s (nI k) (nI q) h12 xi12 hw) K_L_164 xi12.1.1.1 rfl rfl (Nat.le_of_ble_eq_true rfl) ⟨Nat.le_of_ble_eq_true rfl, Nat.le_of_ble_eq_true rfl⟩ ⟨by show 60 * k + 0 + 0 + 10 + 10 + 0 + 10 ≤ 400; omega, by show 1200 * k + 0 + 0 + 200 + 200 + 0 + 200 ≤ 8000; omega⟩ dL_terms_77 (fun r15 h15 w15 => ?_) (fun E15 h15 w15 => ?_)
            · obtain ⟨-, er15, g15, xi15, fz15⟩ := w15
              have lw15 := lw12.fr fz15
              have fr15 := fr12.trans fz15
              replace er15 := er15.trans (by rw [cl_nI (show k < 2 ^ 31 by omega), cl_nI (show q < 2 ^ 31 by omega), hX])
              subst er15
              refine v_iload C 1 rfl dL_terms_80 ?_
              refine v_icmp_ne (tgt := 147) C dL_terms_82 (by decide) (fun c16 => absurd rfl c16) (fun c16 => ?_)
              refine v_aload_n C 4 rfl dL_terms_85 rfl ?_
              refine v_iload C 3 rfl dL_terms_86 ?_
              refine v_iload C 10 rfl dL_terms_88 ?_
              refine v_iload C 0 rfl dL_terms_90 ?_
              refine v_callVX (rest := []) C (c_X4_textChar l hl G x g15 s (nI k) (nI q) (nI (p % X.length)) h15 xi15 hw) K_L_128 xi15.1.1.1 rfl rfl (Nat.le_of_ble_eq_true rfl) ⟨Nat.le_of_ble_eq_true rfl, Nat.le_of_ble_eq_true rfl⟩ ⟨by show 60 * k + 0 + 0 + 10 + 10 + 0 + 10 + 10 ≤ 400; omega, by show 1200 * k + 0 + 0 + 200 + 200 + 0 + 200 + 200 ≤ 8000; omega⟩ dL_terms_92 (fun r17 h17 w17 => ?_) (fun E17 h17 w17 => ?_)
              · obtain ⟨-, er17, g17, xi17, fz17⟩ := w17
                have lw17 := lw15.fr fz17
                have fr17 := fr15.trans fz17
                replace er17 := er17.trans (by rw [cl_nI (show k < 2 ^ 31 by omega), cl_nI (show q < 2 ^ 31 by omega), cl_nI (show p % X.length < 2 ^ 31 by omega), hX])
                subst er17
                refine v_iload C 2 rfl dL_terms_95 ?_
                refine v_iload C 0 rfl dL_terms_97 ?_
                refine v_aload_n C 7 rfl dL_terms_99 rfl ?_
                refine v_callS (rest := [.int (nI (X.getD (p % X.length) 0))]) C (c_L_sign6 l hl G (ad 0) k2 (p % X.length) N F A D T lv s h17 hw he lw17.1.1 hk2 (he.2.2.1 k2 hk2).2.1 (by rw [hXX]; omega)) S_L_167 rfl rfl (Nat.le_of_ble_eq_true rfl) ⟨Nat.le_of_ble_eq_true rfl, Nat.le_of_ble_eq_true rfl⟩ ⟨by show 60 * k + 0 + 0 + 10 + 10 + 0 + 10 + 10 + 0 ≤ 400; omega, by show 1200 * k + 0 + 0 + 200 + 200 + 0 + 200 + 200 + 0 ≤ 8000; omega⟩ dL_terms_100 (fun i18 h18 q18 => ?_)
                obtain ⟨e18, rfl⟩ := q18; rw [hXX] at e18; subst e18
                refine v_icmp_ne (tgt := 147) C dL_terms_103 (by decide) (fun c19 => absurd rfl c19) (fun c19 => ?_)
                refine v_aload_n C 4 rfl dL_terms_106 rfl ?_
                refine v_iload C 3 rfl dL_terms_107 ?_
                refine v_iload C 10 rfl dL_terms_109 ?_
                refine v_iload C 1 rfl dL_terms_111 ?_
                refine v_iconst (v := 1) C dL_terms_113 (by decide) ?_
                refine v_isub C dL_terms_114 (v_eqi (nI_sbk (a := X.length) 1 (by decide) (by omega)) ?_)
                refine v_callVX (rest := []) C (c_X4_textChar l hl G x g17 s (nI k) (nI q) (nI (X.length - 1)) h17 xi17 hw) K_L_128 xi17.1.1.1 rfl rfl (Nat.le_of_ble_eq_true rfl) ⟨Nat.le_of_ble_eq_true rfl, Nat.le_of_ble_eq_true rfl⟩ ⟨by show 60 * k + 0 + 0 + 10 + 10 + 0 + 10 + 10 + 0 + 10 ≤ 400; omega, by show 1200 * k + 0 + 0 + 200 + 200 + 0 + 200 + 200 + 0 + 200 ≤ 8000; omega⟩ dL_terms_115 (fun r21 h21 w21 => ?_) (fun E21 h21 w21 => ?_)
                · obtain ⟨-, er21, g21, xi21, fz21⟩ := w21
                  have lw21 := lw17.fr fz21
                  have fr21 := fr17.trans fz21
                  replace er21 := er21.trans (by rw [cl_nI (show k < 2 ^ 31 by omega), cl_nI (show q < 2 ^ 31 by omega), cl_nI (show X.length - 1 < 2 ^ 31 by omega), hX])
                  subst er21
                  refine v_iload C 2 rfl dL_terms_118 ?_
                  refine v_iload C 1 rfl dL_terms_120 ?_
                  refine v_iconst (v := 1) C dL_terms_122 (by decide) ?_
                  refine v_isub C dL_terms_123 (v_eqi (nI_sbk (a := X.length) 1 (by decide) (by omega)) ?_)
                  refine v_aload_n C 7 rfl dL_terms_124 rfl ?_
                  refine v_callS (rest := [.int (nI (X.getD (X.length - 1) 0))]) C (c_L_sign6 l hl G (ad 0) k2 (X.length - 1) N F A D T lv s h21 hw he lw21.1.1 hk2 (he.2.2.1 k2 hk2).2.1 (by rw [hXX]; omega)) S_L_167 rfl rfl (Nat.le_of_ble_eq_true rfl) ⟨Nat.le_of_ble_eq_true rfl, Nat.le_of_ble_eq_true rfl⟩ ⟨by show 60 * k + 0 + 0 + 10 + 10 + 0 + 10 + 10 + 0 + 10 + 0 ≤ 400; omega, by show 1200 * k + 0 + 0 + 200 + 200 + 0 + 200 + 200 + 0 + 200 + 0 ≤ 8000; omega⟩ dL_terms_125 (fun i23 h23 q23 => ?_)
                  obtain ⟨e23, rfl⟩ := q23; rw [hXX] at e23; subst e23
                  refine v_icmp_ne (tgt := 147) C dL_terms_128 (by decide) (fun c24 => absurd rfl c24) (fun c24 => ?_)
                  refine v_aload_n C 4 rfl dL_terms_131 rfl ?_
                  refine v_bipush (v := 11) C dL_terms_132 (by decide) ?_
                  refine v_iload C 3 rfl dL_terms_134 ?_
                  refine v_iload C 10 rfl dL_terms_136 ?_
                  refine v_iload C 1 rfl dL_terms_138 ?_
                  refine v_callL (rest := []) C hNc (c_L_refused_textChar_1 l hl G x g21 s (nI k) (nI q) (nI X.length) h21 xi21 hw (k_chr1 (by omega) (by omega) (by omega) hX hxl)) CL_L_151 rfl rfl (Nat.le_of_ble_eq_true rfl) ⟨Nat.le_of_ble_eq_true rfl, Nat.le_of_ble_eq_true rfl⟩ ⟨by show 60 * k + 0 + 0 + 10 + 10 + 0 + 10 + 10 + 0 + 10 + 0 + 10 ≤ 400; omega, by show 1200 * k + 0 + 0 + 200 + 200 + 0 + 200 + 200 + 0 + 200 + 0 + 200 ≤ 8000; omega⟩ dL_terms_140 (fun r25 h25 w25 => ?_)
                  obtain ⟨e25, rfl⟩ := w25; subst e25
                  refine v_iconst (v := 1) C dL_terms_143 (by decide) ?_
                  refine v_icmp_eq (tgt := 149) C dL_terms_144 (by decide) (fun c26 => ?_) (fun c26 => absurd c26 (by decide))
                  refine v_iinc C 3 [(8, .int (nI (k + 1))), (11, .int (nI (p % X.length))), (10, .int (nI X.length)), (9, .int (nI k2)), (0, .ref x), (1, .int (nI (oN s))), (2, .ref (ad 3)), (3, .ref (ad 0)), (4, .ref (ad 1)), (5, .ref (ad 2)), (6, .int (nI q)), (7, .int (nI p))] rfl (nI_inc k 1 (by decide)) rfl (by decide) dL_terms_149 ?_
                  refine v_goto (tgt := 3) C dL_terms_152 (by decide) ?_
                  refine v_lvp [0, 4, 5, 6, 7, 8, 9, 10, 11] rfl ?_
                  refine v_widen (c2 := 60 * (k + 1)) (s2 := 1200 * (k + 1)) (by omega) (by omega) ?_
                  exact ih1 (k + 1) g21 h21 (by omega) xi21 fr21 lw21 (by omega)
                · exact absurd ((k_chr (by omega) (by omega) (by omega) hX hxl (by omega)).symm.trans w21.2.1) (by decide)
              · exact absurd ((k_chr (by omega) (by omega) (by omega) hX hxl (by omega)).symm.trans w17.2.1) (by decide)
            · exact absurd ((k_isTQ (by omega) (by omega) (by omega)).symm.trans w15.2.1) (by decide)
          · exact absurd ((k_isTQ (by omega) (by omega) (by omega)).symm.trans w12.2.1) (by decide)
        · exact absurd ((k_isT (by omega) (by omega)).symm.trans w10.2.1) (by decide)
  refine v_lvp [0, 1, 2, 3, 4, 5, 6, 7, 8] rfl ?_
  exact L1 (oN s + 1) 0 g h (Nat.zero_le _) hi fr0 lw (by omega)

set_option maxHeartbeats 4000000 in
set_option maxRecDepth 100000 in
theorem c_X5_join (l : Launch) (hl : l.stackTraces = false) (G : zG) (m : Nat) (ad : Nat → Nat) (ns : Nat → Nat) (na : Nat → Nat → Nat) (ia : Nat → Nat → Int32) (la : Nat → Nat → Int64) (h0 : zH) (s : ZS) (k : Int32) (h : zH) (hm : MR G h0 h m ad ns na ia la) (hs : MS s ns na ia la) (hw : WFs s)  : zMet eI l yX5_join cX5_join 5 (some .int) 13 0 0 G [.ref m, .int k] h (fun res h2 => ((kJoin s k) = 0 ∧ MO G h0 h2 m ad (nJoin s k) 0 ∧ res = nI ((oS s).length - 1)) ∨ ((kJoin s k) ≠ 0 ∧ MO G h0 h2 m ad s (kJoin s k))) := by
  refine con_of hl RX5 rfl (by decide +kernel) [(0, .ref m), (1, .int k)] rfl (Nat.le_of_ble_eq_true rfl) ?_
  intro zp ze zs zm zargs zbelow zmeth zc C hr hin Q hQ
  have e2 : (oS s).length = ns 2 := hs.2.1.1.symm
  have e7 : oN s = ns 7 := hs.2.2.1.1.symm
  have e17 : rN s = ns 17 := hs.2.2.2.1.1.symm
  have e25 : bN s = ns 25 := hs.2.2.2.2.1.symm
  have hw2 : ns 2 ≤ 8 := by rw [← e2]; exact hw.1
  have hw7 : ns 7 ≤ 10 := by rw [← e7]; exact hw.2.2.1.1
  have hw17 : ns 17 ≤ 6 := by rw [← e17]; exact hw.2.2.2.2.1.1
  have hw25 : ns 25 ≤ 6 := by rw [← e25]; exact hw.2.2.2.2.2.1
  have hb6 : 0 < ns 2 → na 4 (ns 2 - 1) ≤ 6 := fun z => by rw [(top1_e hs z).2.1]; exact (top1_ok hw (by omega)).2.1
  have hl63 : 0 < ns 2 → na 3 (ns 2 - 1) ≤ 63 := fun z => by rw [(top1_e hs z).1]; exact hw.len _ (by omega)
  refine v_aload_n C 0 rfl dX5_join_0 rfl ?_
  refine v_iload_n C 1 rfl dX5_join_1 rfl ?_
  refine v_iconst (v := 0) C dX5_join_2 (by decide) ?_
  refine v_iconst (v := 3) C dX5_join_3 (by decide) ?_
  refine v_callS (rest := [.ref m]) C (c_X5_isIn l hl G  k 0 3 h ) S_X5_89 rfl rfl (Nat.le_of_ble_eq_true rfl) ⟨Nat.le_of_ble_eq_true rfl, Nat.le_of_ble_eq_true rfl⟩ ⟨Nat.le_of_ble_eq_true rfl, Nat.le_of_ble_eq_true rfl⟩ dX5_join_4 (fun i1 h1 q1 => ?_)
  obtain ⟨e1, rfl⟩ := q1
  by_cases c1 : wth k 0 3
  · rw [zb_t c1] at e1; subst e1
    obtain ⟨j2, hj2, en2⟩ := wth_nat (n := 3) c1 (by decide) (by decide)
    subst en2
    refine v_if_eq (tgt := 14) C dX5_join_7 (by decide) (fun c3 => absurd c3 (by decide)) (fun c3 => ?_)
    refine v_iconst (v := 0) C dX5_join_10 (by decide) ?_
    refine v_goto (tgt := 15) C dX5_join_11 (by decide) ?_
    refine v_put C (mC ad (upN ns 0 0)) P_X5_85 hm.1 rfl rfl rfl (Nat.le_of_ble_eq_true rfl) dX5_join_15 (v_nw (fun h4 eh4 => ?_))
    have hm4 := hm.putS 0 0 rfl eh4
    refine v_aload_n C 0 rfl dX5_join_18 rfl ?_
    refine v_get (v := .int (nI 0)) C F_X5_85 hm4.1 rfl dX5_join_19 ?_
    refine v_if_le (tgt := 27) C dX5_join_22 (by decide) (fun c5 => ?_) (fun c5 => absurd c5 (by decide))
    refine v_aload_n C 0 rfl dX5_join_27 rfl ?_
    refine v_aload_n C 0 rfl dX5_join_28 rfl ?_
    refine v_get (v := .int (nI (ns 2))) C F_X5_105 hm4.1 rfl dX5_join_29 ?_
    refine v_iconst (v := 2) C dX5_join_32 (by decide) ?_
    refine v_icmp_ge (tgt := 40) C dX5_join_33 (by decide) (fun c6 => ?_) (fun c6 => ?_)
    · have c6 := (nk_ge (a := (ns 2)) 2 (by decide) (by omega) (by decide)).mp c6
      have h0s : 2 ≤ ns 2 := by omega
      obtain ⟨hT3, hT4, hT5⟩ := top1_e hs (by omega)
      have hTo := top1_ok hw (by omega)
      obtain ⟨hU3, hU4, hU5⟩ := top2_e hs h0s
      have hUo := top2_ok hw (by omega)
      have hTb := hTo.2.1
      have hUb := hUo.2.1
      refine v_iconst (v := 0) C dX5_join_40 (by decide) ?_
      refine v_put C (mC ad (upN (upN ns 0 0) 0 0)) P_X5_85 hm4.1 rfl rfl rfl (Nat.le_of_ble_eq_true rfl) dX5_join_41 (v_nw (fun h7 eh7 => ?_))
      have hm7 := hm4.putS 0 0 rfl eh7
      refine v_aload_n C 0 rfl dX5_join_44 rfl ?_
      refine v_get (v := .int (nI 0)) C F_X5_85 hm7.1 rfl dX5_join_45 ?_
      refine v_if_le (tgt := 53) C dX5_join_48 (by decide) (fun c8 => ?_) (fun c8 => absurd c8 (by decide))
      refine v_aload_n C 0 rfl dX5_join_53 rfl ?_
      refine v_get (v := .int (nI (ns 2))) C F_X5_105 hm7.1 rfl dX5_join_54 ?_
      refine v_iconst (v := 2) C dX5_join_57 (by decide) ?_
      refine v_isub C dX5_join_58 (v_eqi (nI_sbk (a := (ns 2)) 2 (by decide) (by omega)) ?_)
      refine v_istore_n C [(2, .int (nI ((ns 2) - 2))), (0, .ref m), (1, .int (nI j2))] rfl (by decide) dX5_join_59 rfl ?_
      refine v_aload_n C 1 rfl dX5_join_60 rfl ?_
      refine v_get (v := .int (nI (ns 2))) C F_X5_105 hm7.1 rfl dX5_join_61 ?_
      refine v_iconst (v := 1) C dX5_join_64 (by decide) ?_
      refine v_isub C dX5_join_65 (v_eqi (nI_sbk (a := (ns 2)) 1 (by decide) (by omega)) ?_)
      refine v_istore_n C [(3, .int (nI ((ns 2) - 1))), (2, .int (nI ((ns 2) - 2))), (0, .ref m), (1, .int (nI j2))] rfl (by decide) dX5_join_66 rfl ?_
      refine v_aload_n C 2 rfl dX5_join_67 rfl ?_
      refine v_aload_n C 2 rfl dX5_join_68 rfl ?_
      refine v_get (v := .ref (ad 4)) C F_X5_16 hm7.1 rfl dX5_join_69 ?_
      refine v_iload_n C 1 rfl dX5_join_72 rfl ?_
      refine v_iald C (hm7.2.1 4 rfl) (vpin (show ((ns 2) - 2) < 8 by omega) (by decide)) dX5_join_73 (v_eqi (y := nI ((na 4) ((ns 2) - 2))) (congrArg (fun j => nI ((na 4) j)) (nI_clamp (show ((ns 2) - 2) < 2 ^ 31 by omega))) ?_)
      refine v_bipush (v := 6) C dX5_join_74 (by decide) ?_
      refine v_icmp_eq (tgt := 90) C dX5_join_76 (by decide) (fun c11 => ?_) (fun c11 => ?_)
      · have c11 := (nk_eq (a := ((na 4) ((ns 2) - 2))) 6 (by decide) (by omega) (by decide)).mp c11
        refine v_iconst (v := 2) C dX5_join_90 (by decide) ?_
        refine v_goto (tgt := 95) C dX5_join_91 (by decide) ?_
        refine v_put C (mC ad (upN (upN (upN ns 0 0) 0 0) 0 2)) P_X5_85 hm7.1 rfl rfl rfl (Nat.le_of_ble_eq_true rfl) dX5_join_95 (v_nw (fun h12 eh12 => ?_))
        have hm12 := hm7.putS 0 2 rfl eh12
        refine v_aload_n C 2 rfl dX5_join_98 rfl ?_
        refine v_get (v := .int (nI 2)) C F_X5_85 hm12.1 rfl dX5_join_99 ?_
        refine v_if_le (tgt := 107) C dX5_join_102 (by decide) (fun c13 => absurd c13 (by decide)) (fun c13 => ?_)
        refine v_iconst (v := 0) C dX5_join_105 (by decide) ?_
        have ek : (kJoin s (nI j2)) = 2 := by simp [kJoin, inN, wth, c1, c6, ← hT4, ← hU4, c11, e2]
        exact v_iret C hQ hr rfl (Nat.le_of_ble_eq_true rfl) (Nat.le_of_ble_eq_true rfl) dX5_join_106 (Or.inr ⟨(by rw [ek]; decide), (by rw [ek]; exact ⟨_, _, _, _, hm12, hs.thr _, rfl⟩)⟩)
      · have c11 := (nk_eq_f (a := ((na 4) ((ns 2) - 2))) 6 (by decide) (by omega) (by decide)).mp c11
        refine v_aload_n C 2 rfl dX5_join_79 rfl ?_
        refine v_get (v := .ref (ad 4)) C F_X5_16 hm7.1 rfl dX5_join_80 ?_
        refine v_iload_n C 0 rfl dX5_join_83 rfl ?_
        refine v_iald C (hm7.2.1 4 rfl) (vpin (show ((ns 2) - 1) < 8 by omega) (by decide)) dX5_join_84 (v_eqi (y := nI ((na 4) ((ns 2) - 1))) (congrArg (fun j => nI ((na 4) j)) (nI_clamp (show ((ns 2) - 1) < 2 ^ 31 by omega))) ?_)
        refine v_bipush (v := 6) C dX5_join_85 (by decide) ?_
        refine v_icmp_ne (tgt := 94) C dX5_join_87 (by decide) (fun c14 => ?_) (fun c14 => ?_)
        · have c14 := (nk_ne (a := ((na 4) ((ns 2) - 1))) 6 (by decide) (by omega) (by decide)).mp c14
          refine v_iconst (v := 0) C dX5_join_94 (by decide) ?_
          refine v_put C (mC ad (upN (upN (upN ns 0 0) 0 0) 0 0)) P_X5_85 hm7.1 rfl rfl rfl (Nat.le_of_ble_eq_true rfl) dX5_join_95 (v_nw (fun h15 eh15 => ?_))
          have hm15 := hm7.putS 0 0 rfl eh15
          refine v_aload_n C 2 rfl dX5_join_98 rfl ?_
          refine v_get (v := .int (nI 0)) C F_X5_85 hm15.1 rfl dX5_join_99 ?_
          refine v_if_le (tgt := 107) C dX5_join_102 (by decide) (fun c16 => ?_) (fun c16 => absurd c16 (by decide))
          have hT31 := (hTo.len31 (by omega)).2
          have hU31 := (hUo.len31 (by omega)).2
          refine v_iconst (v := 0) C dX5_join_107 (by decide) ?_
          refine v_istore C [(4, .int 0), (3, .int (nI ((ns 2) - 1))), (2, .int (nI ((ns 2) - 2))), (0, .ref m), (1, .int (nI j2))] rfl (by decide) dX5_join_108 ?_
          have L17 : ∀ (d : Nat) (i : Nat) (f3 f5 f6 : Nat → Nat) (h2 : zH), (i ≤ (top1 s).1.length) → (MR G h0 h2 m ad (upN (upN (upN ns 0 0) 0 0) 0 0) (up2 (up2 (up2 na 5 f5) 6 f6) 3 f3) ia la) → (f3 (ns 2 - 1) = (top1 s).1.length) → (jnC na f3 f5 f6 (ns 2 - 2) (top2 s).1 (top1 s).1 i) → ((top1 s).1.length + 1 ≤ i + d) → V zp l ze (rmm 13 0 0) zs zm zargs zbelow zmeth zc G 5 Q h2 (0 + 0) (0 + 0) 110 [(4, .int (nI i)), (3, .int (nI (ns 2 - 1))), (2, .int (nI (ns 2 - 2))), (1, .int (nI j2)), (0, .ref m)] [] := by
            intro d
            induction d with
            | zero =>
              intro i f3 f5 f6 h2 hi hm2 hp3 hjc hd
              exact absurd hd (by omega)
            | succ d ih17 =>
              intro i f3 f5 f6 h2 hi hm2 hp3 hjc hd
              refine v_iload C 0 rfl dX5_join_110 ?_
              refine v_aload_n C 4 rfl dX5_join_112 rfl ?_
              refine v_get (v := .ref (ad 3)) C F_X5_13 hm2.1 rfl dX5_join_113 ?_
              refine v_iload_n C 1 rfl dX5_join_116 rfl ?_
              refine v_iald C (hm2.2.1 3 rfl) (vpin (show (ns 2 - 1) < 8 by omega) (by decide)) dX5_join_117 (v_eqi (y := nI (f3 (ns 2 - 1))) (congrArg (fun j => nI (f3 j)) (nI_clamp (show (ns 2 - 1) < 2 ^ 31 by omega))) ?_)
              refine v_icmp_ge (tgt := 156) C dX5_join_118 (by decide) (fun c18 => ?_) (fun c18 => ?_)
              · have c18 := (nn_ge (a := i) (b := (f3 (ns 2 - 1))) (by omega) (by omega)).mp c18
                have h3o := hjc.1
                refine v_aload_n C 4 rfl dX5_join_156 rfl ?_
                refine v_iload_n C 2 rfl dX5_join_157 rfl ?_
                refine v_iload_n C 3 rfl dX5_join_158 rfl ?_
                refine v_iconst (v := 0) C dX5_join_159 (by decide) ?_
                refine v_callV (rest := []) C (c_X5_adds l hl G m ad (upN (upN (upN ns 0 0) 0 0) 0 0) (up2 (up2 (up2 na 5 f5) 6 f6) 3 f3) ia la h0 (ns 2 - 2) j2 0 h2 hm2 (by omega) (show f3 (ns 2 - 2) < 64 by omega)) K_X5_108 hm2.1 rfl rfl (Nat.le_of_ble_eq_true rfl) ⟨Nat.le_of_ble_eq_true rfl, Nat.le_of_ble_eq_true rfl⟩ ⟨Nat.le_of_ble_eq_true rfl, Nat.le_of_ble_eq_true rfl⟩ dX5_join_160 (fun _ h19 hm19 => ?_)
                refine v_aload_n C 4 rfl dX5_join_163 rfl ?_
                refine v_get (v := .ref (ad 4)) C F_X5_16 hm19.1 rfl dX5_join_164 ?_
                refine v_iload_n C 2 rfl dX5_join_167 rfl ?_
                refine v_iconst (v := 1) C dX5_join_168 (by decide) ?_
                refine v_aload_n C 4 rfl dX5_join_169 rfl ?_
                refine v_get (v := .ref (ad 4)) C F_X5_16 hm19.1 rfl dX5_join_170 ?_
                refine v_iload_n C 2 rfl dX5_join_173 rfl ?_
                refine v_iald C (hm19.2.1 4 rfl) (vpin (show (ns 2 - 2) < 8 by omega) (by decide)) dX5_join_174 (v_eqi (y := nI ((na 4) (ns 2 - 2))) (congrArg (fun j => nI ((na 4) j)) (nI_clamp (show (ns 2 - 2) < 2 ^ 31 by omega))) ?_)
                refine v_aload_n C 4 rfl dX5_join_175 rfl ?_
                refine v_get (v := .ref (ad 4)) C F_X5_16 hm19.1 rfl dX5_join_176 ?_
                refine v_iload_n C 1 rfl dX5_join_179 rfl ?_
                refine v_iald C (hm19.2.1 4 rfl) (vpin (show (ns 2 - 1) < 8 by omega) (by decide)) dX5_join_180 (v_eqi (y := nI ((na 4) (ns 2 - 1))) (congrArg (fun j => nI ((na 4) j)) (nI_clamp (show (ns 2 - 1) < 2 ^ 31 by omega))) ?_)
                refine v_icmp_le (tgt := 193) C dX5_join_181 (by decide) (fun c20 => ?_) (fun c20 => ?_)
                · have c20 := (nn_le (a := ((na 4) (ns 2 - 2))) (b := ((na 4) (ns 2 - 1))) (by omega) (by omega)).mp c20
                  refine v_aload_n C 4 rfl dX5_join_193 rfl ?_
                  refine v_get (v := .ref (ad 4)) C F_X5_16 hm19.1 rfl dX5_join_194 ?_
                  refine v_iload_n C 1 rfl dX5_join_197 rfl ?_
                  refine v_iald C (hm19.2.1 4 rfl) (vpin (show (ns 2 - 1) < 8 by omega) (by decide)) dX5_join_198 (v_eqi (y := nI ((na 4) (ns 2 - 1))) (congrArg (fun j => nI ((na 4) j)) (nI_clamp (show (ns 2 - 1) < 2 ^ 31 by omega))) ?_)
                  refine v_iadd C dX5_join_199 (v_eqi (nI_kad ((na 4) (ns 2 - 1)) 1 (by decide)) ?_)
                  refine v_iast C (hm19.2.1 4 rfl) (vpin (show (ns 2 - 2) < 8 by omega) (by decide)) dX5_join_200 (v_nw (fun h22 eh22 => ?_))
                  have hm22 := hm19.putN (k := 4) rfl (g := (na 4)) (i := (ns 2 - 2)) (v := (1 + ((na 4) (ns 2 - 1)))) (by omega) eh22
                  refine v_aload_n C 4 rfl dX5_join_201 rfl ?_
                  refine v_dup C dX5_join_202 rfl ?_
                  refine v_get (v := .int (nI (ns 2))) C F_X5_105 hm22.1 rfl dX5_join_203 ?_
                  refine v_iconst (v := 1) C dX5_join_206 (by decide) ?_
                  refine v_isub C dX5_join_207 (v_eqi (nI_sbk (a := (ns 2)) 1 (by decide) (by omega)) ?_)
                  refine v_put C (mC ad (upN (upN (upN (upN ns 0 0) 0 0) 0 0) 2 ((ns 2) - 1))) P_X5_105 hm22.1 rfl rfl rfl (Nat.le_of_ble_eq_true rfl) dX5_join_208 (v_nw (fun h24 eh24 => ?_))
                  have hm24 := hm22.putS 2 ((ns 2) - 1) rfl eh24
                  refine v_aload_n C 4 rfl dX5_join_211 rfl ?_
                  refine v_get (v := .int (nI ((ns 2) - 1))) C F_X5_105 hm24.1 rfl dX5_join_212 ?_
                  have ek : (kJoin s (nI j2)) = 0 := by simp [kJoin, inN, wth, c1, c6, ← hT4, ← hU4, c11, c14, e2]
                  have hz : i = (top1 s).1.length := by omega
                  rw [hz] at hjc
                  exact v_iret C hQ hr rfl (Nat.le_of_ble_eq_true rfl) (Nat.le_of_ble_eq_true rfl) dX5_join_215 (Or.inl ⟨ek, ⟨_, _, _, _, hm24, (hs.join hw (by omega) (by omega) (by omega) rfl rfl rfl rfl hjc (by omega)), rfl⟩, (by rw [e2])⟩)
                · have c20 := (nn_le_f (a := ((na 4) (ns 2 - 2))) (b := ((na 4) (ns 2 - 1))) (by omega) (by omega)).mp c20
                  refine v_aload_n C 4 rfl dX5_join_184 rfl ?_
                  refine v_get (v := .ref (ad 4)) C F_X5_16 hm19.1 rfl dX5_join_185 ?_
                  refine v_iload_n C 2 rfl dX5_join_188 rfl ?_
                  refine v_iald C (hm19.2.1 4 rfl) (vpin (show (ns 2 - 2) < 8 by omega) (by decide)) dX5_join_189 (v_eqi (y := nI ((na 4) (ns 2 - 2))) (congrArg (fun j => nI ((na 4) j)) (nI_clamp (show (ns 2 - 2) < 2 ^ 31 by omega))) ?_)
                  refine v_goto (tgt := 199) C dX5_join_190 (by decide) ?_
                  refine v_iadd C dX5_join_199 (v_eqi (nI_kad ((na 4) (ns 2 - 2)) 1 (by decide)) ?_)
                  refine v_iast C (hm19.2.1 4 rfl) (vpin (show (ns 2 - 2) < 8 by omega) (by decide)) dX5_join_200 (v_nw (fun h26 eh26 => ?_))
                  have hm26 := hm19.putN (k := 4) rfl (g := (na 4)) (i := (ns 2 - 2)) (v := (1 + ((na 4) (ns 2 - 2)))) (by omega) eh26
                  refine v_aload_n C 4 rfl dX5_join_201 rfl ?_
                  refine v_dup C dX5_join_202 rfl ?_
                  refine v_get (v := .int (nI (ns 2))) C F_X5_105 hm26.1 rfl dX5_join_203 ?_
                  refine v_iconst (v := 1) C dX5_join_206 (by decide) ?_
                  refine v_isub C dX5_join_207 (v_eqi (nI_sbk (a := (ns 2)) 1 (by decide) (by omega)) ?_)
                  refine v_put C (mC ad (upN (upN (upN (upN ns 0 0) 0 0) 0 0) 2 ((ns 2) - 1))) P_X5_105 hm26.1 rfl rfl rfl (Nat.le_of_ble_eq_true rfl) dX5_join_208 (v_nw (fun h28 eh28 => ?_))
                  have hm28 := hm26.putS 2 ((ns 2) - 1) rfl eh28
                  refine v_aload_n C 4 rfl dX5_join_211 rfl ?_
                  refine v_get (v := .int (nI ((ns 2) - 1))) C F_X5_105 hm28.1 rfl dX5_join_212 ?_
                  have ek : (kJoin s (nI j2)) = 0 := by simp [kJoin, inN, wth, c1, c6, ← hT4, ← hU4, c11, c14, e2]
                  have hz : i = (top1 s).1.length := by omega
                  rw [hz] at hjc
                  exact v_iret C hQ hr rfl (Nat.le_of_ble_eq_true rfl) (Nat.le_of_ble_eq_true rfl) dX5_join_215 (Or.inl ⟨ek, ⟨_, _, _, _, hm28, (hs.join hw (by omega) (by omega) (by omega) rfl rfl rfl rfl hjc (by omega)), rfl⟩, (by rw [e2])⟩)
              · have c18 := (nn_ge_f (a := i) (b := (f3 (ns 2 - 1))) (by omega) (by omega)).mp c18
                have h3o := hjc.1
                refine v_aload_n C 4 rfl dX5_join_121 rfl ?_
                refine v_iload_n C 2 rfl dX5_join_122 rfl ?_
                refine v_aload_n C 4 rfl dX5_join_123 rfl ?_
                refine v_get (v := .ref (ad 5)) C F_X5_19 hm2.1 rfl dX5_join_124 ?_
                refine v_bipush (v := 64) C dX5_join_127 (by decide) ?_
                refine v_iload_n C 1 rfl dX5_join_129 rfl ?_
                refine v_imul C dX5_join_130 (v_eqi (nI_kml (ns 2 - 1) 64 (by decide)) ?_)
                refine v_iload C 0 rfl dX5_join_131 ?_
                refine v_iadd C dX5_join_133 (v_eqi (nI_add (64 * (ns 2 - 1)) i) ?_)
                refine v_iald C (hm2.2.1 5 rfl) (vpin (show ((64 * (ns 2 - 1)) + i) < 512 by omega) (by decide)) dX5_join_134 (v_eqi (y := nI (f5 ((64 * (ns 2 - 1)) + i))) (congrArg (fun j => nI (f5 j)) (nI_clamp (show ((64 * (ns 2 - 1)) + i) < 2 ^ 31 by omega))) ?_)
                refine v_aload_n C 4 rfl dX5_join_135 rfl ?_
                refine v_get (v := .ref (ad 6)) C F_X5_22 hm2.1 rfl dX5_join_136 ?_
                refine v_bipush (v := 64) C dX5_join_139 (by decide) ?_
                refine v_iload_n C 1 rfl dX5_join_141 rfl ?_
                refine v_imul C dX5_join_142 (v_eqi (nI_kml (ns 2 - 1) 64 (by decide)) ?_)
                refine v_iload C 0 rfl dX5_join_143 ?_
                refine v_iadd C dX5_join_145 (v_eqi (nI_add (64 * (ns 2 - 1)) i) ?_)
                refine v_iald C (hm2.2.1 6 rfl) (vpin (show ((64 * (ns 2 - 1)) + i) < 512 by omega) (by decide)) dX5_join_146 (v_eqi (y := nI (f6 ((64 * (ns 2 - 1)) + i))) (congrArg (fun j => nI (f6 j)) (nI_clamp (show ((64 * (ns 2 - 1)) + i) < 2 ^ 31 by omega))) ?_)
                refine v_callV (rest := []) C (c_X5_adds l hl G m ad (upN (upN (upN ns 0 0) 0 0) 0 0) (up2 (up2 (up2 na 5 f5) 6 f6) 3 f3) ia la h0 (ns 2 - 2) (f5 ((64 * (ns 2 - 1)) + i)) (f6 ((64 * (ns 2 - 1)) + i)) h2 hm2 (by omega) (show f3 (ns 2 - 2) < 64 by omega)) K_X5_108 hm2.1 rfl rfl (Nat.le_of_ble_eq_true rfl) ⟨Nat.le_of_ble_eq_true rfl, Nat.le_of_ble_eq_true rfl⟩ ⟨Nat.le_of_ble_eq_true rfl, Nat.le_of_ble_eq_true rfl⟩ dX5_join_147 (fun _ h33 hm33 => ?_)
                refine v_iinc C 0 [(4, .int (nI (i + 1))), (3, .int (nI (ns 2 - 1))), (2, .int (nI (ns 2 - 2))), (1, .int (nI j2)), (0, .ref m)] rfl (nI_inc i 1 (by decide)) rfl (by decide) dX5_join_150 ?_
                refine v_goto (tgt := 110) C dX5_join_153 (by decide) ?_
                refine v_lvp [0, 1, 2, 3, 4] rfl ?_
                have hmz := hm33; rw [ad_col] at hmz
                exact ih17 (i + 1) _ _ _ h33 (by omega) hmz (by rw [upN_n (by omega)]; exact hp3) (hjc.step (by omega) (by omega) hT5 (by omega)) (by omega)
          refine v_lvp [0, 1, 2, 4, 3] rfl ?_
          have hmz : MR G h0 h15 m ad (upN (upN (upN ns 0 0) 0 0) 0 0) (up2 (up2 (up2 na 5 (na 5)) 6 (na 6)) 3 (na 3)) ia la := by rw [up2_id3]; exact hm15
          exact L17 ((top1 s).1.length + 1) 0 (na 3) (na 5) (na 6) h15 (Nat.zero_le _) hmz hT3 ⟨hU3, fun _ _ => rfl, (by rw [List.take_zero, List.append_nil]; exact hU5), fun _ _ => ⟨rfl, rfl⟩⟩ (by omega)
        · have c14 := (nk_ne_f (a := ((na 4) ((ns 2) - 1))) 6 (by decide) (by omega) (by decide)).mp c14
          refine v_iconst (v := 2) C dX5_join_90 (by decide) ?_
          refine v_goto (tgt := 95) C dX5_join_91 (by decide) ?_
          refine v_put C (mC ad (upN (upN (upN ns 0 0) 0 0) 0 2)) P_X5_85 hm7.1 rfl rfl rfl (Nat.le_of_ble_eq_true rfl) dX5_join_95 (v_nw (fun h35 eh35 => ?_))
          have hm35 := hm7.putS 0 2 rfl eh35
          refine v_aload_n C 2 rfl dX5_join_98 rfl ?_
          refine v_get (v := .int (nI 2)) C F_X5_85 hm35.1 rfl dX5_join_99 ?_
          refine v_if_le (tgt := 107) C dX5_join_102 (by decide) (fun c36 => absurd c36 (by decide)) (fun c36 => ?_)
          refine v_iconst (v := 0) C dX5_join_105 (by decide) ?_
          have ek : (kJoin s (nI j2)) = 2 := by simp [kJoin, inN, wth, c1, c6, ← hT4, ← hU4, c11, c14, e2]
          exact v_iret C hQ hr rfl (Nat.le_of_ble_eq_true rfl) (Nat.le_of_ble_eq_true rfl) dX5_join_106 (Or.inr ⟨(by rw [ek]; decide), (by rw [ek]; exact ⟨_, _, _, _, hm35, hs.thr _, rfl⟩)⟩)
    · have c6 := (nk_ge_f (a := (ns 2)) 2 (by decide) (by omega) (by decide)).mp c6
      refine v_iconst (v := 2) C dX5_join_36 (by decide) ?_
      refine v_goto (tgt := 41) C dX5_join_37 (by decide) ?_
      refine v_put C (mC ad (upN (upN ns 0 0) 0 2)) P_X5_85 hm4.1 rfl rfl rfl (Nat.le_of_ble_eq_true rfl) dX5_join_41 (v_nw (fun h37 eh37 => ?_))
      have hm37 := hm4.putS 0 2 rfl eh37
      refine v_aload_n C 0 rfl dX5_join_44 rfl ?_
      refine v_get (v := .int (nI 2)) C F_X5_85 hm37.1 rfl dX5_join_45 ?_
      refine v_if_le (tgt := 53) C dX5_join_48 (by decide) (fun c38 => absurd c38 (by decide)) (fun c38 => ?_)
      refine v_iconst (v := 0) C dX5_join_51 (by decide) ?_
      have ek : (kJoin s (nI j2)) = 2 := by simp [kJoin, inN, wth, c1, c6, e2]
      exact v_iret C hQ hr rfl (Nat.le_of_ble_eq_true rfl) (Nat.le_of_ble_eq_true rfl) dX5_join_52 (Or.inr ⟨(by rw [ek]; decide), (by rw [ek]; exact ⟨_, _, _, _, hm37, hs.thr _, rfl⟩)⟩)
  · rw [zb_f c1] at e1; subst e1
    refine v_if_eq (tgt := 14) C dX5_join_7 (by decide) (fun c39 => ?_) (fun c39 => absurd c39 (by decide))
    refine v_iconst (v := 1) C dX5_join_14 (by decide) ?_
    refine v_put C (mC ad (upN ns 0 1)) P_X5_85 hm.1 rfl rfl rfl (Nat.le_of_ble_eq_true rfl) dX5_join_15 (v_nw (fun h40 eh40 => ?_))
    have hm40 := hm.putS 0 1 rfl eh40
    refine v_aload_n C 0 rfl dX5_join_18 rfl ?_
    refine v_get (v := .int (nI 1)) C F_X5_85 hm40.1 rfl dX5_join_19 ?_
    refine v_if_le (tgt := 27) C dX5_join_22 (by decide) (fun c41 => absurd c41 (by decide)) (fun c41 => ?_)
    refine v_iconst (v := 0) C dX5_join_25 (by decide) ?_
    have ek : (kJoin s k) = 1 := by simp [kJoin, inN, wth, c1, e2]
    exact v_iret C hQ hr rfl (Nat.le_of_ble_eq_true rfl) (Nat.le_of_ble_eq_true rfl) dX5_join_26 (Or.inr ⟨(by rw [ek]; decide), (by rw [ek]; exact ⟨_, _, _, _, hm40, hs.thr _, rfl⟩)⟩)

theorem hd_at {s : ZS} {ns : Nat → Nat} {na : Nat → Nat → Nat} {ia : Nat → Nat → Int32} {la : Nat → Nat → Int64} (hs : MS s ns na ia la) (hw : WFs s) {t q : Nat} (ht : t < oN s) (hq : q < 20) : ∃ z f, z ≤ q ∧ hdP (na 9) (20 * t) q = 20 * t + z ∧ tHeld s t q = f ∧ na 9 (20 * t + z) = f.length ∧ f.length ≤ 63 ∧ tkAt (na 10) (na 11) (64 * (20 * t + z)) f ∧ WL (oL s) (oL s t) f ∧ oL s t ≤ 6 := by
  induction q with
  | zero =>
    rcases def_some hs hw ht hq with ⟨f, a1, a2, a3, a4, a5, a6, a7, a8⟩ | ⟨a, -⟩
    · exact ⟨0, f, Nat.le_refl _, rfl, by unfold tHeld; show (oD s t 0).getD [] = f; rw [a1]; rfl, a2, a4, a5, a6, a7⟩
    · exact absurd a (hw.2.2.1.2.1 t ht).2.2.1
  | succ q ih =>
    rcases def_some hs hw ht hq with ⟨f, a1, a2, a3, a4, a5, a6, a7, a8⟩ | ⟨a, a0⟩
    · exact ⟨q + 1, f, Nat.le_refl _, if_neg (by omega), by unfold tHeld; rw [shd_some a1]; rfl, a2, a4, a5, a6, a7⟩
    · obtain ⟨z, f, i1, i2, i3, i4⟩ := ih (by omega)
      refine ⟨z, f, by omega, (if_pos a0).trans i2, ?_, i4⟩
      rw [← i3]
      unfold tHeld
      show (match oD s t (q + 1) with | some f => some f | none => shd (oD s t) q).getD [] = _
      rw [a]
theorem n9_lt {s : ZS} {ns : Nat → Nat} {na : Nat → Nat → Nat} {ia : Nat → Nat → Int32} {la : Nat → Nat → Int64} (hs : MS s ns na ia la) (hw : WFs s) : ∀ j, j < 200 → na 9 j < 2 ^ 31 := fun j hj => by
  have a := (hs.2.2.1.2.2 (j / 20) (j % 20) (by omega) (by omega)).1
  have a' : na 9 (20 * (j / 20) + j % 20) = ((oD s (j / 20) (j % 20)).getD []).length := a
  have b := hw.2.2.1.len (j / 20) (j % 20)
  rw [show 20 * (j / 20) + j % 20 = j by omega] at a'
  omega
theorem n9_pos {s : ZS} {ns : Nat → Nat} {na : Nat → Nat → Nat} {ia : Nat → Nat → Int32} {la : Nat → Nat → Int64} (hs : MS s ns na ia la) (hw : WFs s) {t : Nat} (ht : t < oN s) : 0 < na 9 (20 * t) := by
  rcases def_some hs hw ht (show 0 < 20 by decide) with ⟨f, a1, a2, a3, -⟩ | ⟨a, -⟩
  · have a2' : na 9 (20 * t) = f.length := a2
    omega
  · exact absurd a (hw.2.2.1.2.1 t ht).2.2.1
theorem MS.wr {s : ZS} {ns : Nat → Nat} {na : Nat → Nat → Nat} {ia : Nat → Nat → Int32} {la : Nat → Nat → Int64} {n : Nat} {g f : Nat → Nat} (h : MS s ns na ia la) : MS s (upN ns 15 n) (up2 (up2 na 16 g) 14 f) ia la := h
theorem txJ_1 {tl : Nat → Nat} {n : Nat} {t : List Tok} (h : WL tl n t) : txJ (txs t []) = txtOf t := by rw [h.tx]; rfl
set_option maxHeartbeats 4000000 in
set_option maxRecDepth 100000 in
theorem c_X5_textLength (l : Launch) (hl : l.stackTraces = false) (G : zG) (m : Nat) (ad : Nat → Nat) (ns : Nat → Nat) (na : Nat → Nat → Nat) (ia : Nat → Nat → Int32) (la : Nat → Nat → Int64) (h0 : zH) (s : ZS) (t q : Int32) (h : zH) (hm : MR G h0 h m ad ns na ia la) (hs : MS s ns na ia la) (hw : WFs s)  : zMet eI l yX5_textLength cX5_textLength 3 (some .int) 15 0 0 G [.ref m, .int t, .int q] h (fun res h2 => ((kIsTQ s t q) = 0 ∧ MO G h0 h2 m ad s 0 ∧ res = nI (txtOf (tHeld s (cl t) (cl q))).length) ∨ ((kIsTQ s t q) ≠ 0 ∧ MO G h0 h2 m ad s (kIsTQ s t q))) := by
  refine con_of hl RX5 rfl (by decide +kernel) [(0, .ref m), (1, .int t), (2, .int q)] rfl (Nat.le_of_ble_eq_true rfl) ?_
  intro zp ze zs zm zargs zbelow zmeth zc C hr hin Q hQ
  have e2 : (oS s).length = ns 2 := hs.2.1.1.symm
  have e7 : oN s = ns 7 := hs.2.2.1.1.symm
  have e17 : rN s = ns 17 := hs.2.2.2.1.1.symm
  have e25 : bN s = ns 25 := hs.2.2.2.2.1.symm
  have hw2 : ns 2 ≤ 8 := by rw [← e2]; exact hw.1
  have hw7 : ns 7 ≤ 10 := by rw [← e7]; exact hw.2.2.1.1
  have hw17 : ns 17 ≤ 6 := by rw [← e17]; exact hw.2.2.2.2.1.1
  have hw25 : ns 25 ≤ 6 := by rw [← e25]; exact hw.2.2.2.2.2.1
  refine v_aload_n C 0 rfl dX5_textLength_0 rfl ?_
  refine v_aload_n C 0 rfl dX5_textLength_1 rfl ?_
  refine v_iload_n C 1 rfl dX5_textLength_2 rfl ?_
  refine v_callV (rest := [.ref m]) C (c_X5_isTerm l hl G m ad ns na ia la h0 t h hm (by omega)) K_X5_116 hm.1 rfl rfl (Nat.le_of_ble_eq_true rfl) ⟨Nat.le_of_ble_eq_true rfl, Nat.le_of_ble_eq_true rfl⟩ ⟨Nat.le_of_ble_eq_true rfl, Nat.le_of_ble_eq_true rfl⟩ dX5_textLength_3 (fun i1 h1 q1 => ?_)
  obtain ⟨e1, rfl⟩ := q1
  by_cases c1 : inN t (ns 7)
  · rw [zb_t c1] at e1; subst e1
    obtain ⟨j2, hj2, en2⟩ := inN.nat c1 (by omega)
    subst en2
    have eCt : cl (nI j2) = j2 := cl_nI (by omega)
    refine v_if_eq (tgt := 20) C dX5_textLength_6 (by decide) (fun c3 => absurd c3 (by decide)) (fun c3 => ?_)
    refine v_iload_n C 2 rfl dX5_textLength_9 rfl ?_
    refine v_callS (rest := [.ref m]) C (c_X5_isQuarter l hl G  q h ) S_X5_100 rfl rfl (Nat.le_of_ble_eq_true rfl) ⟨Nat.le_of_ble_eq_true rfl, Nat.le_of_ble_eq_true rfl⟩ ⟨Nat.le_of_ble_eq_true rfl, Nat.le_of_ble_eq_true rfl⟩ dX5_textLength_10 (fun i4 h4 q4 => ?_)
    obtain ⟨e4, rfl⟩ := q4
    by_cases c4 : inN q 20
    · rw [zb_t c4] at e4; subst e4
      obtain ⟨j5, hj5, en5⟩ := inN.nat c4 (by omega)
      subst en5
      have eCq : cl (nI j5) = j5 := cl_nI (by omega)
      refine v_if_eq (tgt := 20) C dX5_textLength_13 (by decide) (fun c6 => absurd c6 (by decide)) (fun c6 => ?_)
      refine v_iconst (v := 0) C dX5_textLength_16 (by decide) ?_
      refine v_goto (tgt := 21) C dX5_textLength_17 (by decide) ?_
      refine v_put C (mC ad (upN ns 0 0)) P_X5_85 hm.1 rfl rfl rfl (Nat.le_of_ble_eq_true rfl) dX5_textLength_21 (v_nw (fun h7 eh7 => ?_))
      have hm7 := hm.putS 0 0 rfl eh7
      refine v_aload_n C 0 rfl dX5_textLength_24 rfl ?_
      refine v_get (v := .int (nI 0)) C F_X5_85 hm7.1 rfl dX5_textLength_25 ?_
      refine v_if_le (tgt := 33) C dX5_textLength_28 (by decide) (fun c8 => ?_) (fun c8 => absurd c8 (by decide))
      refine v_aload_n C 0 rfl dX5_textLength_33 rfl ?_
      refine v_aload_n C 0 rfl dX5_textLength_34 rfl ?_
      refine v_iload_n C 1 rfl dX5_textLength_35 rfl ?_
      refine v_iload_n C 2 rfl dX5_textLength_36 rfl ?_
      have htn : j2 < oN s := by rw [e7]; omega
      refine v_callV (rest := [.ref m]) C (c_X5_holding l hl G m ad (upN ns 0 0) na ia la h0 j2 j5 h7 hm7 (by omega) (by omega) (n9_pos hs hw htn) (n9_lt hs hw)) K_X5_171 hm7.1 rfl rfl (Nat.le_of_ble_eq_true rfl) ⟨Nat.le_of_ble_eq_true rfl, Nat.le_of_ble_eq_true rfl⟩ ⟨Nat.le_of_ble_eq_true rfl, Nat.le_of_ble_eq_true rfl⟩ dX5_textLength_37 (fun i9 h9 q9 => ?_)
      obtain ⟨e9, rfl⟩ := q9; subst e9
      obtain ⟨qz, f, hz1, hz2, hth, hfl, hf63, hftk, hfw, hfL⟩ := hd_at hs hw htn (show j5 < 20 by omega)
      refine v_eqi (congrArg nI hz2) ?_
      refine v_callV (rest := []) C (c_X5_writes l hl G m ad (upN ns 0 0) na ia la h0 (20 * j2 + qz) f h7 hm7 (by omega) hfl hf63 hftk (by have e := hfw.rok (m := 6) (d := 0) (ts := []) (by omega) trivial; rw [List.append_nil] at e; exact e) (by have e := (hfw.up hfL).tok2 (m := 448) (ts := []) (s := []) (by show 0 + 7 * 2 ^ 6 ≤ 448; decide) (show (txJ (txtOf f :: [])).length ≤ 448 from by have := hfw.txl6 hfL; show ([] ++ txtOf f).length ≤ 448; rw [List.nil_append]; omega); rw [List.append_nil] at e; exact e) (fun jj h1 => hfw.tokj h1)) K_X5_174 hm7.1 rfl rfl (Nat.le_of_ble_eq_true rfl) ⟨Nat.le_of_ble_eq_true rfl, Nat.le_of_ble_eq_true rfl⟩ ⟨Nat.le_of_ble_eq_true rfl, Nat.le_of_ble_eq_true rfl⟩ dX5_textLength_40 (fun _ h10 q10 => ?_)
      obtain ⟨f2, g2, hm10, hT2⟩ := q10; rw [txJ_1 hfw] at hm10 hT2; rw [← hth] at hm10 hT2
      have htl := hfw.txl6 hfL; rw [← hth] at htl
      refine v_aload_n C 0 rfl dX5_textLength_43 rfl ?_
      refine v_get (v := .int (nI ((txtOf (tHeld s j2 j5)).length))) C F_X5_154 hm10.1 rfl dX5_textLength_44 ?_
      have ek : (kIsTQ s (nI j2) (nI j5)) = 0 := by simp [kIsTQ, inN, wth, c1, c4, e7]
      exact v_iret C hQ hr rfl (Nat.le_of_ble_eq_true rfl) (Nat.le_of_ble_eq_true rfl) dX5_textLength_47 (Or.inl ⟨ek, ⟨_, _, _, _, hm10, hs.wr, rfl⟩, (by rw [eCt, eCq])⟩)
    · rw [zb_f c4] at e4; subst e4
      refine v_if_eq (tgt := 20) C dX5_textLength_13 (by decide) (fun c11 => ?_) (fun c11 => absurd c11 (by decide))
      refine v_iconst (v := 1) C dX5_textLength_20 (by decide) ?_
      refine v_put C (mC ad (upN ns 0 1)) P_X5_85 hm.1 rfl rfl rfl (Nat.le_of_ble_eq_true rfl) dX5_textLength_21 (v_nw (fun h12 eh12 => ?_))
      have hm12 := hm.putS 0 1 rfl eh12
      refine v_aload_n C 0 rfl dX5_textLength_24 rfl ?_
      refine v_get (v := .int (nI 1)) C F_X5_85 hm12.1 rfl dX5_textLength_25 ?_
      refine v_if_le (tgt := 33) C dX5_textLength_28 (by decide) (fun c13 => absurd c13 (by decide)) (fun c13 => ?_)
      refine v_iconst (v := 0) C dX5_textLength_31 (by decide) ?_
      have ek : (kIsTQ s (nI j2) q) = 1 := by simp [kIsTQ, inN, wth, c1, c4, e7]
      exact v_iret C hQ hr rfl (Nat.le_of_ble_eq_true rfl) (Nat.le_of_ble_eq_true rfl) dX5_textLength_32 (Or.inr ⟨(by rw [ek]; decide), (by rw [ek]; exact ⟨_, _, _, _, hm12, hs.thr _, rfl⟩)⟩)
  · rw [zb_f c1] at e1; subst e1
    refine v_if_eq (tgt := 20) C dX5_textLength_6 (by decide) (fun c14 => ?_) (fun c14 => absurd c14 (by decide))
    refine v_iconst (v := 1) C dX5_textLength_20 (by decide) ?_
    refine v_put C (mC ad (upN ns 0 1)) P_X5_85 hm.1 rfl rfl rfl (Nat.le_of_ble_eq_true rfl) dX5_textLength_21 (v_nw (fun h15 eh15 => ?_))
    have hm15 := hm.putS 0 1 rfl eh15
    refine v_aload_n C 0 rfl dX5_textLength_24 rfl ?_
    refine v_get (v := .int (nI 1)) C F_X5_85 hm15.1 rfl dX5_textLength_25 ?_
    refine v_if_le (tgt := 33) C dX5_textLength_28 (by decide) (fun c16 => absurd c16 (by decide)) (fun c16 => ?_)
    refine v_iconst (v := 0) C dX5_textLength_31 (by decide) ?_
    have ek : (kIsTQ s t q) = 1 := by simp [kIsTQ, inN, wth, c1, e7]
    exact v_iret C hQ hr rfl (Nat.le_of_ble_eq_true rfl) (Nat.le_of_ble_eq_true rfl) dX5_textLength_32 (Or.inr ⟨(by rw [ek]; decide), (by rw [ek]; exact ⟨_, _, _, _, hm15, hs.thr _, rfl⟩)⟩)
set_option maxHeartbeats 4000000 in
set_option maxRecDepth 100000 in
theorem c_X5_textChar (l : Launch) (hl : l.stackTraces = false) (G : zG) (m : Nat) (ad : Nat → Nat) (ns : Nat → Nat) (na : Nat → Nat → Nat) (ia : Nat → Nat → Int32) (la : Nat → Nat → Int64) (h0 : zH) (s : ZS) (t q j : Int32) (h : zH) (hm : MR G h0 h m ad ns na ia la) (hs : MS s ns na ia la) (hw : WFs s)  : zMet eI l yX5_textChar cX5_textChar 4 (some .char) 15 0 0 G [.ref m, .int t, .int q, .int j] h (fun res h2 => ((kChar s t q j) = 0 ∧ MO G h0 h2 m ad s 0 ∧ res = nI ((txtOf (tHeld s (cl t) (cl q))).getD (cl j) 0)) ∨ ((kChar s t q j) ≠ 0 ∧ MO G h0 h2 m ad s (kChar s t q j))) := by
  refine con_of hl RX5 rfl (by decide +kernel) [(0, .ref m), (1, .int t), (2, .int q), (3, .int j)] rfl (Nat.le_of_ble_eq_true rfl) ?_
  intro zp ze zs zm zargs zbelow zmeth zc C hr hin Q hQ
  have e2 : (oS s).length = ns 2 := hs.2.1.1.symm
  have e7 : oN s = ns 7 := hs.2.2.1.1.symm
  have e17 : rN s = ns 17 := hs.2.2.2.1.1.symm
  have e25 : bN s = ns 25 := hs.2.2.2.2.1.symm
  have hw2 : ns 2 ≤ 8 := by rw [← e2]; exact hw.1
  have hw7 : ns 7 ≤ 10 := by rw [← e7]; exact hw.2.2.1.1
  have hw17 : ns 17 ≤ 6 := by rw [← e17]; exact hw.2.2.2.2.1.1
  have hw25 : ns 25 ≤ 6 := by rw [← e25]; exact hw.2.2.2.2.2.1
  refine v_aload_n C 0 rfl dX5_textChar_0 rfl ?_
  refine v_aload_n C 0 rfl dX5_textChar_1 rfl ?_
  refine v_iload_n C 1 rfl dX5_textChar_2 rfl ?_
  refine v_callV (rest := [.ref m]) C (c_X5_isTerm l hl G m ad ns na ia la h0 t h hm (by omega)) K_X5_116 hm.1 rfl rfl (Nat.le_of_ble_eq_true rfl) ⟨Nat.le_of_ble_eq_true rfl, Nat.le_of_ble_eq_true rfl⟩ ⟨Nat.le_of_ble_eq_true rfl, Nat.le_of_ble_eq_true rfl⟩ dX5_textChar_3 (fun i1 h1 q1 => ?_)
  obtain ⟨e1, rfl⟩ := q1
  by_cases c1 : inN t (ns 7)
  · rw [zb_t c1] at e1; subst e1
    obtain ⟨j2, hj2, en2⟩ := inN.nat c1 (by omega)
    subst en2
    have eCt : cl (nI j2) = j2 := cl_nI (by omega)
    refine v_if_eq (tgt := 20) C dX5_textChar_6 (by decide) (fun c3 => absurd c3 (by decide)) (fun c3 => ?_)
    refine v_iload_n C 2 rfl dX5_textChar_9 rfl ?_
    refine v_callS (rest := [.ref m]) C (c_X5_isQuarter l hl G  q h ) S_X5_100 rfl rfl (Nat.le_of_ble_eq_true rfl) ⟨Nat.le_of_ble_eq_true rfl, Nat.le_of_ble_eq_true rfl⟩ ⟨Nat.le_of_ble_eq_true rfl, Nat.le_of_ble_eq_true rfl⟩ dX5_textChar_10 (fun i4 h4 q4 => ?_)
    obtain ⟨e4, rfl⟩ := q4
    by_cases c4 : inN q 20
    · rw [zb_t c4] at e4; subst e4
      obtain ⟨j5, hj5, en5⟩ := inN.nat c4 (by omega)
      subst en5
      have eCq : cl (nI j5) = j5 := cl_nI (by omega)
      refine v_if_eq (tgt := 20) C dX5_textChar_13 (by decide) (fun c6 => absurd c6 (by decide)) (fun c6 => ?_)
      refine v_iconst (v := 0) C dX5_textChar_16 (by decide) ?_
      refine v_goto (tgt := 21) C dX5_textChar_17 (by decide) ?_
      refine v_put C (mC ad (upN ns 0 0)) P_X5_85 hm.1 rfl rfl rfl (Nat.le_of_ble_eq_true rfl) dX5_textChar_21 (v_nw (fun h7 eh7 => ?_))
      have hm7 := hm.putS 0 0 rfl eh7
      refine v_aload_n C 0 rfl dX5_textChar_24 rfl ?_
      refine v_get (v := .int (nI 0)) C F_X5_85 hm7.1 rfl dX5_textChar_25 ?_
      refine v_if_le (tgt := 34) C dX5_textChar_28 (by decide) (fun c8 => ?_) (fun c8 => absurd c8 (by decide))
      refine v_aload_n C 0 rfl dX5_textChar_34 rfl ?_
      refine v_aload_n C 0 rfl dX5_textChar_35 rfl ?_
      refine v_iload_n C 1 rfl dX5_textChar_36 rfl ?_
      refine v_iload_n C 2 rfl dX5_textChar_37 rfl ?_
      have htn : j2 < oN s := by rw [e7]; omega
      refine v_callV (rest := [.ref m]) C (c_X5_holding l hl G m ad (upN ns 0 0) na ia la h0 j2 j5 h7 hm7 (by omega) (by omega) (n9_pos hs hw htn) (n9_lt hs hw)) K_X5_171 hm7.1 rfl rfl (Nat.le_of_ble_eq_true rfl) ⟨Nat.le_of_ble_eq_true rfl, Nat.le_of_ble_eq_true rfl⟩ ⟨Nat.le_of_ble_eq_true rfl, Nat.le_of_ble_eq_true rfl⟩ dX5_textChar_38 (fun i9 h9 q9 => ?_)
      obtain ⟨e9, rfl⟩ := q9; subst e9
      obtain ⟨qz, f, hz1, hz2, hth, hfl, hf63, hftk, hfw, hfL⟩ := hd_at hs hw htn (show j5 < 20 by omega)
      refine v_eqi (congrArg nI hz2) ?_
      refine v_callV (rest := []) C (c_X5_writes l hl G m ad (upN ns 0 0) na ia la h0 (20 * j2 + qz) f h7 hm7 (by omega) hfl hf63 hftk (by have e := hfw.rok (m := 6) (d := 0) (ts := []) (by omega) trivial; rw [List.append_nil] at e; exact e) (by have e := (hfw.up hfL).tok2 (m := 448) (ts := []) (s := []) (by show 0 + 7 * 2 ^ 6 ≤ 448; decide) (show (txJ (txtOf f :: [])).length ≤ 448 from by have := hfw.txl6 hfL; show ([] ++ txtOf f).length ≤ 448; rw [List.nil_append]; omega); rw [List.append_nil] at e; exact e) (fun jj h1 => hfw.tokj h1)) K_X5_174 hm7.1 rfl rfl (Nat.le_of_ble_eq_true rfl) ⟨Nat.le_of_ble_eq_true rfl, Nat.le_of_ble_eq_true rfl⟩ ⟨Nat.le_of_ble_eq_true rfl, Nat.le_of_ble_eq_true rfl⟩ dX5_textChar_41 (fun _ h10 q10 => ?_)
      obtain ⟨f2, g2, hm10, hT2⟩ := q10; rw [txJ_1 hfw] at hm10 hT2; rw [← hth] at hm10 hT2
      have htl := hfw.txl6 hfL; rw [← hth] at htl
      refine v_aload_n C 0 rfl dX5_textChar_44 rfl ?_
      refine v_iload_n C 3 rfl dX5_textChar_45 rfl ?_
      refine v_iconst (v := 0) C dX5_textChar_46 (by decide) ?_
      refine v_aload_n C 0 rfl dX5_textChar_47 rfl ?_
      refine v_get (v := .int (nI ((txtOf (tHeld s j2 j5)).length))) C F_X5_154 hm10.1 rfl dX5_textChar_48 ?_
      refine v_iconst (v := 1) C dX5_textChar_51 (by decide) ?_
      refine v_isub C dX5_textChar_52 (v_eqi (y := ((nI ((txtOf (tHeld s j2 j5)).length)) - 1)) (rfl) ?_)
      refine v_callS (rest := [.ref m]) C (c_X5_isIn l hl G j 0 ((nI ((txtOf (tHeld s j2 j5)).length)) - 1) h10) S_X5_89 rfl rfl (Nat.le_of_ble_eq_true rfl) ⟨Nat.le_of_ble_eq_true rfl, Nat.le_of_ble_eq_true rfl⟩ ⟨Nat.le_of_ble_eq_true rfl, Nat.le_of_ble_eq_true rfl⟩ dX5_textChar_53 (fun i12 h12 q12 => ?_)
      obtain ⟨e12, rfl⟩ := q12
      rw [zb_congr (wth_m1 j (by omega))] at e12
      by_cases c12 : inN j (txtOf (tHeld s j2 j5)).length
      · rw [zb_t c12] at e12; subst e12
        obtain ⟨j13, hj13, en13⟩ := inN.nat c12 (by omega)
        subst en13
        refine v_if_eq (tgt := 63) C dX5_textChar_56 (by decide) (fun c14 => absurd c14 (by decide)) (fun c14 => ?_)
        refine v_iconst (v := 0) C dX5_textChar_59 (by decide) ?_
        refine v_goto (tgt := 64) C dX5_textChar_60 (by decide) ?_
        refine v_put C (mC ad (upN (upN (upN ns 0 0) 15 (txtOf (tHeld s j2 j5)).length) 0 0)) P_X5_85 hm10.1 rfl rfl rfl (Nat.le_of_ble_eq_true rfl) dX5_textChar_64 (v_nw (fun h15 eh15 => ?_))
        have hm15 := hm10.putS 0 0 rfl eh15
        refine v_aload_n C 0 rfl dX5_textChar_67 rfl ?_
        refine v_get (v := .int (nI 0)) C F_X5_85 hm15.1 rfl dX5_textChar_68 ?_
        refine v_if_le (tgt := 79) C dX5_textChar_71 (by decide) (fun c16 => ?_) (fun c16 => absurd c16 (by decide))
        refine v_aload_n C 0 rfl dX5_textChar_79 rfl ?_
        refine v_get (v := .ref (ad 14)) C F_X5_44 hm15.1 rfl dX5_textChar_80 ?_
        refine v_iload_n C 3 rfl dX5_textChar_83 rfl ?_
        refine v_cald C (hm15.2.1 14 rfl) (vpin (show j13 < 1000 by omega) (by decide)) dX5_textChar_84 (v_eqi (y := nI (f2 j13)) (congrArg (fun j => nI (f2 j)) (nI_clamp (show j13 < 2 ^ 31 by omega))) ?_)
        have ek : (kChar s (nI j2) (nI j5) (nI j13)) = 0 := (if_pos ⟨by rw [e7]; exact c1, c4⟩).trans (if_pos (by rw [eCt, eCq]; exact c12))
        exact v_iret C hQ hr (by first | rfl | exact ch_nar (by rw [hT2 _ (by omega)]; exact asc_get (hth ▸ hfw.txa) (by omega))) (Nat.le_of_ble_eq_true rfl) (Nat.le_of_ble_eq_true rfl) dX5_textChar_85 (Or.inl ⟨ek, ⟨_, _, _, _, hm15, ((hs.thr 0).wr.thr _), rfl⟩, (by rw [eCt, eCq, cl_nI (by omega)]; exact congrArg nI (hT2 _ (by omega)))⟩)
      · rw [zb_f c12] at e12; subst e12
        refine v_if_eq (tgt := 63) C dX5_textChar_56 (by decide) (fun c17 => ?_) (fun c17 => absurd c17 (by decide))
        refine v_iconst (v := 1) C dX5_textChar_63 (by decide) ?_
        refine v_put C (mC ad (upN (upN (upN ns 0 0) 15 (txtOf (tHeld s j2 j5)).length) 0 1)) P_X5_85 hm10.1 rfl rfl rfl (Nat.le_of_ble_eq_true rfl) dX5_textChar_64 (v_nw (fun h18 eh18 => ?_))
        have hm18 := hm10.putS 0 1 rfl eh18
        refine v_aload_n C 0 rfl dX5_textChar_67 rfl ?_
        refine v_get (v := .int (nI 1)) C F_X5_85 hm18.1 rfl dX5_textChar_68 ?_
        refine v_if_le (tgt := 79) C dX5_textChar_71 (by decide) (fun c19 => absurd c19 (by decide)) (fun c19 => ?_)
        refine v_bipush (v := 32) C dX5_textChar_74 (by decide) ?_
        refine v_goto (tgt := 85) C dX5_textChar_76 (by decide) ?_
        have ek : (kChar s (nI j2) (nI j5) j) = 1 := (if_pos ⟨by rw [e7]; exact c1, c4⟩).trans (if_neg (by rw [eCt, eCq]; exact c12))
        exact v_iret C hQ hr (by first | rfl | exact ch_nar (by rw [hT2 _ (by omega)]; exact asc_get (hth ▸ hfw.txa) (by omega))) (Nat.le_of_ble_eq_true rfl) (Nat.le_of_ble_eq_true rfl) dX5_textChar_85 (Or.inr ⟨(by rw [ek]; decide), (by rw [ek]; exact ⟨_, _, _, _, hm18, ((hs.thr 0).wr.thr _), rfl⟩)⟩)
    · rw [zb_f c4] at e4; subst e4
      refine v_if_eq (tgt := 20) C dX5_textChar_13 (by decide) (fun c20 => ?_) (fun c20 => absurd c20 (by decide))
      refine v_iconst (v := 1) C dX5_textChar_20 (by decide) ?_
      refine v_put C (mC ad (upN ns 0 1)) P_X5_85 hm.1 rfl rfl rfl (Nat.le_of_ble_eq_true rfl) dX5_textChar_21 (v_nw (fun h21 eh21 => ?_))
      have hm21 := hm.putS 0 1 rfl eh21
      refine v_aload_n C 0 rfl dX5_textChar_24 rfl ?_
      refine v_get (v := .int (nI 1)) C F_X5_85 hm21.1 rfl dX5_textChar_25 ?_
      refine v_if_le (tgt := 34) C dX5_textChar_28 (by decide) (fun c22 => absurd c22 (by decide)) (fun c22 => ?_)
      refine v_bipush (v := 32) C dX5_textChar_31 (by decide) ?_
      have ek : (kChar s (nI j2) q j) = 1 := by simp [kChar, inN, c1, c4, e7]
      exact v_iret C hQ hr (by first | rfl | exact ch_nar (by rw [hT2 _ (by omega)]; exact asc_get (hth ▸ hfw.txa) (by omega))) (Nat.le_of_ble_eq_true rfl) (Nat.le_of_ble_eq_true rfl) dX5_textChar_33 (Or.inr ⟨(by rw [ek]; decide), (by rw [ek]; exact ⟨_, _, _, _, hm21, hs.thr _, rfl⟩)⟩)
  · rw [zb_f c1] at e1; subst e1
    refine v_if_eq (tgt := 20) C dX5_textChar_6 (by decide) (fun c23 => ?_) (fun c23 => absurd c23 (by decide))
    refine v_iconst (v := 1) C dX5_textChar_20 (by decide) ?_
    refine v_put C (mC ad (upN ns 0 1)) P_X5_85 hm.1 rfl rfl rfl (Nat.le_of_ble_eq_true rfl) dX5_textChar_21 (v_nw (fun h24 eh24 => ?_))
    have hm24 := hm.putS 0 1 rfl eh24
    refine v_aload_n C 0 rfl dX5_textChar_24 rfl ?_
    refine v_get (v := .int (nI 1)) C F_X5_85 hm24.1 rfl dX5_textChar_25 ?_
    refine v_if_le (tgt := 34) C dX5_textChar_28 (by decide) (fun c25 => absurd c25 (by decide)) (fun c25 => ?_)
    refine v_bipush (v := 32) C dX5_textChar_31 (by decide) ?_
    have ek : (kChar s t q j) = 1 := by simp [kChar, inN, c1, e7]
    exact v_iret C hQ hr (by first | rfl | exact ch_nar (by rw [hT2 _ (by omega)]; exact asc_get (hth ▸ hfw.txa) (by omega))) (Nat.le_of_ble_eq_true rfl) (Nat.le_of_ble_eq_true rfl) dX5_textChar_33 (Or.inr ⟨(by rw [ek]; decide), (by rw [ek]; exact ⟨_, _, _, _, hm24, hs.thr _, rfl⟩)⟩)

theorem zCatch_of {own : String} {s : State} {args : Array Value} {c : Code} {pc : Nat} {E nm : String} {hh : List (Nat × Nat × Nat × Nat)} (hto : c.exceptionTable.toList = tableOf hh) (pre : List ExceptionTableEntry) (x : ExceptionTableEntry) (suf : List ExceptionTableEntry) (hsp : tableOf hh = pre ++ x :: suf) (hpre : ∀ z ∈ pre, z.catchType ≠ 0 ∧ ∃ n : String, (Cond.classLink own z.catchType n).before args s = true ∧ va_Nc E n s) (hx : covers x pc = true) (h0 : x.catchType ≠ 0) (hl : (Cond.classLink own x.catchType nm).before args s = true) (hc : (Cond.castable E nm).before args s = true) : zCatch own s args c pc E x.handlerPc := ⟨pre, x, suf, nm, hto.trans hsp, fun z hz => Or.inr (hpre z hz), hx, h0, hl, hc, rfl⟩
set_option maxHeartbeats 4000000 in
set_option maxRecDepth 100000 in
theorem c_L_value (l : Launch) (hl : l.stackTraces = false) (G : zG) (fa aa da t q M : Nat) (F : Nat → Nat) (A D : Nat → Int32) (T : Nat → List Tok) (lv : Nat → Nat) (s : ZS) (h : zH) (hw : WFs s) (he : EV s F A D T lv M) (hF : iC G h fa 60 (fN F)) (hA : iC G h aa 60 A) (hD : iC G h da 60 D) (ht : t < oN s) (hq : q < 9) : zMet eL l yL_value cL_value 5 (some .long) 18 0 0 G [.int (nI t), .int (nI q), .ref fa, .ref aa, .ref da] h (fun r h2 => r = oV s t q ∧ h = h2) := by
  refine con_of hl RL rfl (by decide +kernel) [(0, .int (nI t)), (1, .int (nI q)), (2, .ref fa), (3, .ref aa), (4, .ref da)] rfl (Nat.le_of_ble_eq_true rfl) ?_
  intro zp ze zs zm zargs zbelow zmeth zc C hr hin Q hQ
  refine v_iload_n C 0 rfl dL_value_0 rfl ?_
  refine v_iload_n C 1 rfl dL_value_1 rfl ?_
  refine v_aload C 4 rfl dL_value_2 ?_
  obtain ⟨k2, hk2, hh2, hv2, -, ho2⟩ := he.held hw ht (q := q) (by omega)
  have hM := he.1
  have hN6 := he.2.1
  refine v_callS (rest := []) C (c_L_holds l hl G t q da D h hD (by omega) (by omega) (EV.d0 he hw ht)) S_L_26 rfl rfl (Nat.le_of_ble_eq_true rfl) ⟨Nat.le_of_ble_eq_true rfl, Nat.le_of_ble_eq_true rfl⟩ ⟨Nat.le_of_ble_eq_true rfl, Nat.le_of_ble_eq_true rfl⟩ dL_value_4 (fun i1 h1 q1 => ?_)
  obtain ⟨e1, rfl⟩ := q1; rw [hh2] at e1; subst e1
  refine v_iload_n C 1 rfl dL_value_7 rfl ?_
  refine v_aload_n C 2 rfl dL_value_8 rfl ?_
  refine v_aload_n C 3 rfl dL_value_9 rfl ?_
  refine v_aload C 4 rfl dL_value_10 ?_
  refine v_callS (rest := []) C (c_L_at6 l hl G fa aa da k2 q M F A D T lv s h hw he hF hA hD hk2 (he.2.2.1 k2 hk2).2.1 hq) S_L_88 rfl rfl (Nat.le_of_ble_eq_true rfl) ⟨Nat.le_of_ble_eq_true rfl, Nat.le_of_ble_eq_true rfl⟩ ⟨Nat.le_of_ble_eq_true rfl, Nat.le_of_ble_eq_true rfl⟩ dL_value_12 (fun l2 h2 q2 => ?_)
  obtain ⟨e2, rfl⟩ := q2; subst e2
  exact v_lret C hQ hr (Nat.le_of_ble_eq_true rfl) (Nat.le_of_ble_eq_true rfl) dL_value_15 ⟨ho2.symm, rfl⟩
set_option maxHeartbeats 4000000 in
set_option maxRecDepth 100000 in
theorem c_L_limit (l : Launch) (hl : l.stackTraces = false) (G : zG) (ta k q : Nat) (B lm : Nat → Int32) (h : zH) (hT : iC G h ta 64 B) (hk : k < 2) (hq : q < 9) (hlm : ∀ z, z < 9 → B (32 * k + 4 + z) = lm z) (hln : ∀ z, z < 9 → lm z < 0 → lm z = -1) : zMet eI l yL_limit cL_limit 4 (some .int) 12 0 0 G [.ref ta, .int (nI k), .int (nI q)] h (fun r h2 => r = lmA lm q ∧ h = h2) := by
  refine con_of hl RL rfl (by decide +kernel) [(0, .ref ta), (1, .int (nI k)), (2, .int (nI q))] rfl (Nat.le_of_ble_eq_true rfl) ?_
  intro zp ze zs zm zargs zbelow zmeth zc C hr hin Q hQ
  refine v_iload_n C 2 rfl dL_limit_0 rfl ?_
  refine v_eqi (gI_s q) ?_
  refine v_istore_n C [(3, .int (gI (q + 1))), (0, .ref ta), (1, .int (nI k)), (2, .int (nI q))] rfl (by decide) dL_limit_1 rfl ?_
  have L1 : ∀ (d : Nat) (c : Nat), (c ≤ q + 1) → (lmA lm q = lmB lm c) → (c + 1 ≤ d) → V zp l ze (rmm 12 0 0) zs zm zargs zbelow zmeth zc G 4 Q h (0) (0) 2 [(3, .int (gI c)), (0, .ref ta), (1, .int (nI k)), (2, .int (nI q))] [] := by
    intro d
    induction d with
    | zero =>
      intro c hc hlz hd
      exact absurd hd (by omega)
    | succ d ih1 =>
      intro c hc hlz hd
      refine v_iload_n C 0 rfl dL_limit_2 rfl ?_
      refine v_if_lt (tgt := 36) C dL_limit_3 (by decide) (fun c2 => ?_) (fun c2 => ?_)
      · have c2 := (gI_neg (c := c) (by omega)).mp c2
        refine v_iconst (v := (-1)) C dL_limit_36 (by decide) ?_
        exact v_iret C hQ hr rfl (Nat.le_of_ble_eq_true rfl) (Nat.le_of_ble_eq_true rfl) dL_limit_37 ⟨(hlz.trans (by have hz : c = 0 := (by omega); rw [hz]; rfl)).symm, rfl⟩
      · have c2 := (not_congr (gI_neg (c := c) (by omega))).mp c2
        obtain ⟨u, rfl⟩ : ∃ u, c = u + 1 := ⟨c - 1, by omega⟩
        rw [← gI_s u]
        refine v_aload_n C 1 rfl dL_limit_6 rfl ?_
        refine v_bipush (v := 32) C dL_limit_7 (by decide) ?_
        refine v_iload_n C 2 rfl dL_limit_9 rfl ?_
        refine v_imul C dL_limit_10 (v_eqi (nI_kml k 32 (by decide)) ?_)
        refine v_iconst (v := 4) C dL_limit_11 (by decide) ?_
        refine v_iadd C dL_limit_12 (v_eqi (nI_adk (32 * k) 4 (by decide)) ?_)
        refine v_iload_n C 0 rfl dL_limit_13 rfl ?_
        refine v_iadd C dL_limit_14 (v_eqi (nI_add ((32 * k) + 4) u) ?_)
        refine v_iald C hT (vpin (show (32 * k + 4) + u < 64 by omega) (by decide)) dL_limit_15 (v_eqi (y := lm u) ((congrArg B (nI_clamp (show (32 * k + 4) + u < 2 ^ 31 by omega))).trans (hlm u (by omega))) ?_)
        refine v_if_lt (tgt := 30) C dL_limit_16 (by decide) (fun c6 => ?_) (fun c6 => ?_)
        · refine v_iinc C 0 [(3, .int (gI u)), (0, .ref ta), (1, .int (nI k)), (2, .int (nI q))] rfl (gI_dec u) rfl (by decide) dL_limit_30 ?_
          refine v_goto (tgt := 2) C dL_limit_33 (by decide) ?_
          refine v_lvp [0, 1, 2, 3] rfl ?_
          exact ih1 u (by omega) (hlz.trans (if_pos (hln u (by omega) c6))) (by omega)
        · refine v_aload_n C 1 rfl dL_limit_19 rfl ?_
          refine v_bipush (v := 32) C dL_limit_20 (by decide) ?_
          refine v_iload_n C 2 rfl dL_limit_22 rfl ?_
          refine v_imul C dL_limit_23 (v_eqi (nI_kml k 32 (by decide)) ?_)
          refine v_iconst (v := 4) C dL_limit_24 (by decide) ?_
          refine v_iadd C dL_limit_25 (v_eqi (nI_adk (32 * k) 4 (by decide)) ?_)
          refine v_iload_n C 0 rfl dL_limit_26 rfl ?_
          refine v_iadd C dL_limit_27 (v_eqi (nI_add ((32 * k) + 4) u) ?_)
          refine v_iald C hT (vpin (show (32 * k + 4) + u < 64 by omega) (by decide)) dL_limit_28 (v_eqi (y := lm u) ((congrArg B (nI_clamp (show (32 * k + 4) + u < 2 ^ 31 by omega))).trans (hlm u (by omega))) ?_)
          exact v_iret C hQ hr rfl (Nat.le_of_ble_eq_true rfl) (Nat.le_of_ble_eq_true rfl) dL_limit_29 ⟨(hlz.trans (if_neg (fun z => c6 (by rw [z]; decide)))).symm, rfl⟩
  refine v_lvp [0, 1, 2, 3] rfl ?_
  exact L1 (q + 2) (q + 1) (Nat.le_refl _) (lmA_B lm q) (by omega)
set_option maxHeartbeats 4000000 in
set_option maxRecDepth 100000 in
theorem c_L_kept (l : Launch) (hl : l.stackTraces = false) (G : zG) (t b m : Int64) (h : zH)  : zMet eI l yL_kept cL_kept 6 (some .boolean) 12 0 0 G [.long t, .long b, .long m] h (fun r h2 => r = zb (0 < b ∧ 100 * t ≤ m * b) ∧ h = h2) := by
  refine con_of hl RL rfl (by decide +kernel) [(0, .long t), (2, .long b), (4, .long m)] rfl (Nat.le_of_ble_eq_true rfl) ?_
  intro zp ze zs zm zargs zbelow zmeth zc C hr hin Q hQ
  refine v_lload_n C 1 rfl dL_kept_0 rfl ?_
  refine v_lconst (v := 0) C dL_kept_1 (by decide) ?_
  refine v_lcmp C dL_kept_2 ?_
  refine v_if_le (tgt := 23) C dL_kept_3 (by decide) (fun c1 => ?_) (fun c1 => ?_)
  · have c1 := (lgc_le b 0).mp c1
    refine v_iconst (v := 0) C dL_kept_23 (by decide) ?_
    exact v_iret C hQ hr rfl (Nat.le_of_ble_eq_true rfl) (Nat.le_of_ble_eq_true rfl) dL_kept_24 ⟨(zb_f (fun z => absurd z.1 (Int64.not_lt.mpr c1))).symm, rfl⟩
  · have c1 := (lgc_le_f b 0).mp c1
    refine v_ldc2 C KO_L_30 dL_kept_6 ?_
    refine v_lload_n C 0 rfl dL_kept_9 rfl ?_
    refine v_lmul C dL_kept_10 (v_eql (y := (100 * t)) (rfl) ?_)
    refine v_lload C 2 rfl dL_kept_11 ?_
    refine v_lload_n C 1 rfl dL_kept_13 rfl ?_
    refine v_lmul C dL_kept_14 (v_eql (y := (m * b)) (rfl) ?_)
    refine v_lcmp C dL_kept_15 ?_
    refine v_if_gt (tgt := 23) C dL_kept_16 (by decide) (fun c4 => ?_) (fun c4 => ?_)
    · have c4 := (lgc_gt (100 * t) (m * b)).mp c4
      refine v_iconst (v := 0) C dL_kept_23 (by decide) ?_
      exact v_iret C hQ hr rfl (Nat.le_of_ble_eq_true rfl) (Nat.le_of_ble_eq_true rfl) dL_kept_24 ⟨(zb_f (fun z => absurd z.2 (Int64.not_le.mpr c4))).symm, rfl⟩
    · have c4 := (lgc_gt_f (100 * t) (m * b)).mp c4
      refine v_iconst (v := 1) C dL_kept_19 (by decide) ?_
      refine v_goto (tgt := 24) C dL_kept_20 (by decide) ?_
      exact v_iret C hQ hr rfl (Nat.le_of_ble_eq_true rfl) (Nat.le_of_ble_eq_true rfl) dL_kept_24 ⟨(zb_t ⟨Int64.not_le.mp c1, Int64.not_lt.mp c4⟩).symm, rfl⟩
set_option maxHeartbeats 4000000 in
set_option maxRecDepth 100000 in
theorem c_L_refused_term_1 (l : Launch) (hl : l.stackTraces = false) (G : zG) (x : Nat) (g : XGh) (s : ZS) (t : Int32) (y1 y2 : Int32) (h : zH) (hi : XI G h g x s) (hw : WFs s) (hK : (kTerm s t) = 1) : zMetL eI l yL_refused cL_refused 6 (some .int) [(0, 174, 175, 132), (0, 174, 179, 134), (0, 174, 183, 136)] 20 10 8000 G [.ref x, .int 0, .int t, .int y1, .int y2] h (fun r h2 => r = 1 ∧ h = h2) := by
  refine con_ofL hl RL rfl (by decide +kernel) [(0, .ref x), (1, .int 0), (2, .int t), (3, .int y1), (4, .int y2)] rfl (Nat.le_of_ble_eq_true rfl) ?_
  intro zp ze zs zm zargs zbelow zmeth zc C hr hin hto hNc Q hQ
  have hts := C.2.2.2.2.1
  refine v_iload_n C 1 rfl dL_refused_0 rfl ?_
  refine v_if_ne (tgt := 13) C dL_refused_1 (by decide) (fun c1 => absurd c1 (by decide)) (fun c1 => ?_)
  refine v_aload_n C 0 rfl dL_refused_4 rfl ?_
  refine v_iload_n C 2 rfl dL_refused_5 rfl ?_
  refine v_callVX (rest := []) C (c_X4_term l hl G x g s t h hi hw) K_L_91 hi.1.1.1 rfl rfl (Nat.le_of_ble_eq_true rfl) ⟨Nat.le_of_ble_eq_true rfl, Nat.le_of_ble_eq_true rfl⟩ ⟨Nat.le_of_ble_eq_true rfl, Nat.le_of_ble_eq_true rfl⟩ dL_refused_6 (fun r2 h2 w2 => ?_) (fun E2 h2 w2 => ?_)
  · exact absurd (hK.symm.trans w2.1) (by decide)
  · obtain ⟨rfl, w2⟩ := w2
    rcases w2 with ⟨ek, rfl⟩ | ⟨ek, rfl⟩
    · refine ⟨175, zCatch_of hto [] (⟨0, 174, 175, 132⟩ : ExceptionTableEntry) [(⟨0, 174, 179, 134⟩ : ExceptionTableEntry), (⟨0, 174, 183, 136⟩ : ExceptionTableEntry)] rfl (fun z hz => absurd hz List.not_mem_nil) rfl (by decide) (hts _ LC_132) (hts _ LK_IO), fun q2 => ?_⟩
      refine v_astore C [(5, .ref q2), (0, .ref x), (1, .int 0), (2, .int t), (3, .int y1), (4, .int y2)] rfl (by decide) dL_refused_175 ?_
      refine v_iconst (v := 1) C dL_refused_177 (by decide) ?_
      exact v_iret C hQ hr rfl (Nat.le_of_ble_eq_true rfl) (Nat.le_of_ble_eq_true rfl) dL_refused_178 ⟨rfl, rfl⟩
    · exact absurd (hK.symm.trans ek) (by decide)
set_option maxHeartbeats 4000000 in
set_option maxRecDepth 100000 in
theorem c_L_refused_term_3 (l : Launch) (hl : l.stackTraces = false) (G : zG) (x : Nat) (g : XGh) (s : ZS) (t : Int32) (y1 y2 : Int32) (h : zH) (hi : XI G h g x s) (hw : WFs s) (hK : (kTerm s t) = 2) : zMetL eI l yL_refused cL_refused 6 (some .int) [(0, 174, 175, 132), (0, 174, 179, 134), (0, 174, 183, 136)] 20 10 8000 G [.ref x, .int 0, .int t, .int y1, .int y2] h (fun r h2 => r = 3 ∧ h = h2) := by
  refine con_ofL hl RL rfl (by decide +kernel) [(0, .ref x), (1, .int 0), (2, .int t), (3, .int y1), (4, .int y2)] rfl (Nat.le_of_ble_eq_true rfl) ?_
  intro zp ze zs zm zargs zbelow zmeth zc C hr hin hto hNc Q hQ
  have hts := C.2.2.2.2.1
  refine v_iload_n C 1 rfl dL_refused_0 rfl ?_
  refine v_if_ne (tgt := 13) C dL_refused_1 (by decide) (fun c1 => absurd c1 (by decide)) (fun c1 => ?_)
  refine v_aload_n C 0 rfl dL_refused_4 rfl ?_
  refine v_iload_n C 2 rfl dL_refused_5 rfl ?_
  refine v_callVX (rest := []) C (c_X4_term l hl G x g s t h hi hw) K_L_91 hi.1.1.1 rfl rfl (Nat.le_of_ble_eq_true rfl) ⟨Nat.le_of_ble_eq_true rfl, Nat.le_of_ble_eq_true rfl⟩ ⟨Nat.le_of_ble_eq_true rfl, Nat.le_of_ble_eq_true rfl⟩ dL_refused_6 (fun r2 h2 w2 => ?_) (fun E2 h2 w2 => ?_)
  · exact absurd (hK.symm.trans w2.1) (by decide)
  · obtain ⟨rfl, w2⟩ := w2
    rcases w2 with ⟨ek, rfl⟩ | ⟨ek, rfl⟩
    · exact absurd (hK.symm.trans ek) (by decide)
    · refine ⟨183, zCatch_of hto [(⟨0, 174, 175, 132⟩ : ExceptionTableEntry), (⟨0, 174, 179, 134⟩ : ExceptionTableEntry)] (⟨0, 174, 183, 136⟩ : ExceptionTableEntry) [] rfl (List.forall_mem_cons.mpr ⟨⟨by decide, _, hts _ LC_132, hNc.2.1⟩, (List.forall_mem_cons.mpr ⟨⟨by decide, _, hts _ LC_134, hNc.2.2.1⟩, (fun z hz => absurd hz List.not_mem_nil)⟩)⟩) rfl (by decide) (hts _ LC_136) (hts _ LK_IS), fun q2 => ?_⟩
      refine v_astore C [(5, .ref q2), (0, .ref x), (1, .int 0), (2, .int t), (3, .int y1), (4, .int y2)] rfl (by decide) dL_refused_183 ?_
      refine v_iconst (v := 3) C dL_refused_185 (by decide) ?_
      exact v_iret C hQ hr rfl (Nat.le_of_ble_eq_true rfl) (Nat.le_of_ble_eq_true rfl) dL_refused_186 ⟨rfl, rfl⟩
set_option maxHeartbeats 4000000 in
set_option maxRecDepth 100000 in
theorem c_L_refused_join_3 (l : Launch) (hl : l.stackTraces = false) (G : zG) (x : Nat) (g : XGh) (s : ZS) (k : Int32) (y1 y2 : Int32) (h : zH) (hi : XI G h g x s) (hw : WFs s) (hK : (kJoin s k) = 2) : zMetL eI l yL_refused cL_refused 6 (some .int) [(0, 174, 175, 132), (0, 174, 179, 134), (0, 174, 183, 136)] 20 20 9000 G [.ref x, .int 1, .int k, .int y1, .int y2] h (fun r h2 => r = 3 ∧ h = h2) := by
  refine con_ofL hl RL rfl (by decide +kernel) [(0, .ref x), (1, .int 1), (2, .int k), (3, .int y1), (4, .int y2)] rfl (Nat.le_of_ble_eq_true rfl) ?_
  intro zp ze zs zm zargs zbelow zmeth zc C hr hin hto hNc Q hQ
  have hts := C.2.2.2.2.1
  refine v_iload_n C 1 rfl dL_refused_0 rfl ?_
  refine v_if_ne (tgt := 13) C dL_refused_1 (by decide) (fun c1 => ?_) (fun c1 => absurd c1 (by decide))
  refine v_iload_n C 1 rfl dL_refused_13 rfl ?_
  refine v_iconst (v := 1) C dL_refused_14 (by decide) ?_
  refine v_icmp_ne (tgt := 27) C dL_refused_15 (by decide) (fun c2 => absurd c2 (by decide)) (fun c2 => ?_)
  refine v_aload_n C 0 rfl dL_refused_18 rfl ?_
  refine v_iload_n C 2 rfl dL_refused_19 rfl ?_
  refine v_callVX (rest := []) C (c_X4_join l hl G x g s k h hi hw) K_L_96 hi.1.1.1 rfl rfl (Nat.le_of_ble_eq_true rfl) ⟨Nat.le_of_ble_eq_true rfl, Nat.le_of_ble_eq_true rfl⟩ ⟨Nat.le_of_ble_eq_true rfl, Nat.le_of_ble_eq_true rfl⟩ dL_refused_20 (fun r3 h3 w3 => ?_) (fun E3 h3 w3 => ?_)
  · exact absurd (hK.symm.trans w3.1) (by decide)
  · obtain ⟨rfl, w3⟩ := w3
    rcases w3 with ⟨ek, rfl⟩ | ⟨ek, rfl⟩
    · exact absurd (hK.symm.trans ek) (by decide)
    · refine ⟨183, zCatch_of hto [(⟨0, 174, 175, 132⟩ : ExceptionTableEntry), (⟨0, 174, 179, 134⟩ : ExceptionTableEntry)] (⟨0, 174, 183, 136⟩ : ExceptionTableEntry) [] rfl (List.forall_mem_cons.mpr ⟨⟨by decide, _, hts _ LC_132, hNc.2.1⟩, (List.forall_mem_cons.mpr ⟨⟨by decide, _, hts _ LC_134, hNc.2.2.1⟩, (fun z hz => absurd hz List.not_mem_nil)⟩)⟩) rfl (by decide) (hts _ LC_136) (hts _ LK_IS), fun q3 => ?_⟩
      refine v_astore C [(5, .ref q3), (0, .ref x), (1, .int 1), (2, .int k), (3, .int y1), (4, .int y2)] rfl (by decide) dL_refused_183 ?_
      refine v_iconst (v := 3) C dL_refused_185 (by decide) ?_
      exact v_iret C hQ hr rfl (Nat.le_of_ble_eq_true rfl) (Nat.le_of_ble_eq_true rfl) dL_refused_186 ⟨rfl, rfl⟩
set_option maxHeartbeats 4000000 in
set_option maxRecDepth 100000 in
theorem c_L_refused_share_3 (l : Launch) (hl : l.stackTraces = false) (G : zG) (x : Nat) (g : XGh) (s : ZS) (p : Int32) (y1 y2 : Int32) (h : zH) (hi : XI G h g x s) (hw : WFs s) (hK : (kShare s p) = 2) : zMetL eI l yL_refused cL_refused 6 (some .int) [(0, 174, 175, 132), (0, 174, 179, 134), (0, 174, 183, 136)] 20 20 9000 G [.ref x, .int 2, .int p, .int y1, .int y2] h (fun r h2 => r = 3 ∧ h = h2) := by
  refine con_ofL hl RL rfl (by decide +kernel) [(0, .ref x), (1, .int 2), (2, .int p), (3, .int y1), (4, .int y2)] rfl (Nat.le_of_ble_eq_true rfl) ?_
  intro zp ze zs zm zargs zbelow zmeth zc C hr hin hto hNc Q hQ
  have hts := C.2.2.2.2.1
  refine v_iload_n C 1 rfl dL_refused_0 rfl ?_
  refine v_if_ne (tgt := 13) C dL_refused_1 (by decide) (fun c1 => ?_) (fun c1 => absurd c1 (by decide))
  refine v_iload_n C 1 rfl dL_refused_13 rfl ?_
  refine v_iconst (v := 1) C dL_refused_14 (by decide) ?_
  refine v_icmp_ne (tgt := 27) C dL_refused_15 (by decide) (fun c2 => ?_) (fun c2 => absurd c2 (by decide))
  refine v_iload_n C 1 rfl dL_refused_27 rfl ?_
  refine v_iconst (v := 2) C dL_refused_28 (by decide) ?_
  refine v_icmp_ne (tgt := 41) C dL_refused_29 (by decide) (fun c3 => absurd c3 (by decide)) (fun c3 => ?_)
  refine v_aload_n C 0 rfl dL_refused_32 rfl ?_
  refine v_iload_n C 2 rfl dL_refused_33 rfl ?_
  refine v_callVX (rest := []) C (c_X4_share l hl G x g s p h hi hw) K_L_98 hi.1.1.1 rfl rfl (Nat.le_of_ble_eq_true rfl) ⟨Nat.le_of_ble_eq_true rfl, Nat.le_of_ble_eq_true rfl⟩ ⟨Nat.le_of_ble_eq_true rfl, Nat.le_of_ble_eq_true rfl⟩ dL_refused_34 (fun r4 h4 w4 => ?_) (fun E4 h4 w4 => ?_)
  · exact absurd (hK.symm.trans w4.1) (by decide)
  · obtain ⟨rfl, w4⟩ := w4
    rcases w4 with ⟨ek, rfl⟩ | ⟨ek, rfl⟩
    · exact absurd (hK.symm.trans ek) (by decide)
    · refine ⟨183, zCatch_of hto [(⟨0, 174, 175, 132⟩ : ExceptionTableEntry), (⟨0, 174, 179, 134⟩ : ExceptionTableEntry)] (⟨0, 174, 183, 136⟩ : ExceptionTableEntry) [] rfl (List.forall_mem_cons.mpr ⟨⟨by decide, _, hts _ LC_132, hNc.2.1⟩, (List.forall_mem_cons.mpr ⟨⟨by decide, _, hts _ LC_134, hNc.2.2.1⟩, (fun z hz => absurd hz List.not_mem_nil)⟩)⟩) rfl (by decide) (hts _ LC_136) (hts _ LK_IS), fun q4 => ?_⟩
      refine v_astore C [(5, .ref q4), (0, .ref x), (1, .int 2), (2, .int p), (3, .int y1), (4, .int y2)] rfl (by decide) dL_refused_183 ?_
      refine v_iconst (v := 3) C dL_refused_185 (by decide) ?_
      exact v_iret C hQ hr rfl (Nat.le_of_ble_eq_true rfl) (Nat.le_of_ble_eq_true rfl) dL_refused_186 ⟨rfl, rfl⟩
set_option maxHeartbeats 4000000 in
set_option maxRecDepth 100000 in
theorem c_L_refused_year_3 (l : Launch) (hl : l.stackTraces = false) (G : zG) (x : Nat) (g : XGh) (s : ZS)  (y0 y1 y2 : Int32) (h : zH) (hi : XI G h g x s) (hw : WFs s) (hK : (kYear s) = 1) : zMetL eI l yL_refused cL_refused 6 (some .int) [(0, 174, 175, 132), (0, 174, 179, 134), (0, 174, 183, 136)] 20 20 9000 G [.ref x, .int 3, .int y0, .int y1, .int y2] h (fun r h2 => r = 3 ∧ h = h2) := by
  refine con_ofL hl RL rfl (by decide +kernel) [(0, .ref x), (1, .int 3), (2, .int y0), (3, .int y1), (4, .int y2)] rfl (Nat.le_of_ble_eq_true rfl) ?_
  intro zp ze zs zm zargs zbelow zmeth zc C hr hin hto hNc Q hQ
  have hts := C.2.2.2.2.1
  refine v_iload_n C 1 rfl dL_refused_0 rfl ?_
  refine v_if_ne (tgt := 13) C dL_refused_1 (by decide) (fun c1 => ?_) (fun c1 => absurd c1 (by decide))
  refine v_iload_n C 1 rfl dL_refused_13 rfl ?_
  refine v_iconst (v := 1) C dL_refused_14 (by decide) ?_
  refine v_icmp_ne (tgt := 27) C dL_refused_15 (by decide) (fun c2 => ?_) (fun c2 => absurd c2 (by decide))
  refine v_iload_n C 1 rfl dL_refused_27 rfl ?_
  refine v_iconst (v := 2) C dL_refused_28 (by decide) ?_
  refine v_icmp_ne (tgt := 41) C dL_refused_29 (by decide) (fun c3 => ?_) (fun c3 => absurd c3 (by decide))
  refine v_iload_n C 1 rfl dL_refused_41 rfl ?_
  refine v_iconst (v := 3) C dL_refused_42 (by decide) ?_
  refine v_icmp_ne (tgt := 54) C dL_refused_43 (by decide) (fun c4 => absurd c4 (by decide)) (fun c4 => ?_)
  refine v_aload_n C 0 rfl dL_refused_46 rfl ?_
  refine v_callVX (rest := []) C (c_X4_year l hl G x g s h hi hw) K_L_101 hi.1.1.1 rfl rfl (Nat.le_of_ble_eq_true rfl) ⟨Nat.le_of_ble_eq_true rfl, Nat.le_of_ble_eq_true rfl⟩ ⟨Nat.le_of_ble_eq_true rfl, Nat.le_of_ble_eq_true rfl⟩ dL_refused_47 (fun r5 h5 w5 => ?_) (fun E5 h5 w5 => ?_)
  · exact absurd (hK.symm.trans w5.1) (by decide)
  · obtain ⟨rfl, w5⟩ := w5
    obtain ⟨ek, rfl⟩ := w5
    refine ⟨183, zCatch_of hto [(⟨0, 174, 175, 132⟩ : ExceptionTableEntry), (⟨0, 174, 179, 134⟩ : ExceptionTableEntry)] (⟨0, 174, 183, 136⟩ : ExceptionTableEntry) [] rfl (List.forall_mem_cons.mpr ⟨⟨by decide, _, hts _ LC_132, hNc.2.1⟩, (List.forall_mem_cons.mpr ⟨⟨by decide, _, hts _ LC_134, hNc.2.2.1⟩, (fun z hz => absurd hz List.not_mem_nil)⟩)⟩) rfl (by decide) (hts _ LC_136) (hts _ LK_IS), fun q5 => ?_⟩
    refine v_astore C [(5, .ref q5), (0, .ref x), (1, .int 3), (2, .int y0), (3, .int y1), (4, .int y2)] rfl (by decide) dL_refused_183 ?_
    refine v_iconst (v := 3) C dL_refused_185 (by decide) ?_
    exact v_iret C hQ hr rfl (Nat.le_of_ble_eq_true rfl) (Nat.le_of_ble_eq_true rfl) dL_refused_186 ⟨rfl, rfl⟩
set_option maxHeartbeats 4000000 in
set_option maxRecDepth 100000 in
theorem c_L_refused_define_3 (l : Launch) (hl : l.stackTraces = false) (G : zG) (x : Nat) (g : XGh) (s : ZS)  (y0 y1 y2 : Int32) (h : zH) (hi : XI G h g x s) (hw : WFs s) (hK : (kDefine s) = 1) : zMetL eI l yL_refused cL_refused 6 (some .int) [(0, 174, 175, 132), (0, 174, 179, 134), (0, 174, 183, 136)] 32 20 9000 G [.ref x, .int 4, .int y0, .int y1, .int y2] h (fun r h2 => r = 3 ∧ h = h2) := by
  refine con_ofL hl RL rfl (by decide +kernel) [(0, .ref x), (1, .int 4), (2, .int y0), (3, .int y1), (4, .int y2)] rfl (Nat.le_of_ble_eq_true rfl) ?_
  intro zp ze zs zm zargs zbelow zmeth zc C hr hin hto hNc Q hQ
  have hts := C.2.2.2.2.1
  refine v_iload_n C 1 rfl dL_refused_0 rfl ?_
  refine v_if_ne (tgt := 13) C dL_refused_1 (by decide) (fun c1 => ?_) (fun c1 => absurd c1 (by decide))
  refine v_iload_n C 1 rfl dL_refused_13 rfl ?_
  refine v_iconst (v := 1) C dL_refused_14 (by decide) ?_
  refine v_icmp_ne (tgt := 27) C dL_refused_15 (by decide) (fun c2 => ?_) (fun c2 => absurd c2 (by decide))
  refine v_iload_n C 1 rfl dL_refused_27 rfl ?_
  refine v_iconst (v := 2) C dL_refused_28 (by decide) ?_
  refine v_icmp_ne (tgt := 41) C dL_refused_29 (by decide) (fun c3 => ?_) (fun c3 => absurd c3 (by decide))
  refine v_iload_n C 1 rfl dL_refused_41 rfl ?_
  refine v_iconst (v := 3) C dL_refused_42 (by decide) ?_
  refine v_icmp_ne (tgt := 54) C dL_refused_43 (by decide) (fun c4 => ?_) (fun c4 => absurd c4 (by decide))
  refine v_iload_n C 1 rfl dL_refused_54 rfl ?_
  refine v_iconst (v := 4) C dL_refused_55 (by decide) ?_
  refine v_icmp_ne (tgt := 67) C dL_refused_56 (by decide) (fun c5 => absurd c5 (by decide)) (fun c5 => ?_)
  refine v_aload_n C 0 rfl dL_refused_59 rfl ?_
  refine v_callVX (rest := []) C (c_X4_define l hl G x g s h hi hw) K_L_105 hi.1.1.1 rfl rfl (Nat.le_of_ble_eq_true rfl) ⟨Nat.le_of_ble_eq_true rfl, Nat.le_of_ble_eq_true rfl⟩ ⟨Nat.le_of_ble_eq_true rfl, Nat.le_of_ble_eq_true rfl⟩ dL_refused_60 (fun r6 h6 w6 => ?_) (fun E6 h6 w6 => ?_)
  · exact absurd (hK.symm.trans w6.1) (by decide)
  · obtain ⟨rfl, w6⟩ := w6
    obtain ⟨ek, rfl⟩ := w6
    refine ⟨183, zCatch_of hto [(⟨0, 174, 175, 132⟩ : ExceptionTableEntry), (⟨0, 174, 179, 134⟩ : ExceptionTableEntry)] (⟨0, 174, 183, 136⟩ : ExceptionTableEntry) [] rfl (List.forall_mem_cons.mpr ⟨⟨by decide, _, hts _ LC_132, hNc.2.1⟩, (List.forall_mem_cons.mpr ⟨⟨by decide, _, hts _ LC_134, hNc.2.2.1⟩, (fun z hz => absurd hz List.not_mem_nil)⟩)⟩) rfl (by decide) (hts _ LC_136) (hts _ LK_IS), fun q6 => ?_⟩
    refine v_astore C [(5, .ref q6), (0, .ref x), (1, .int 4), (2, .int y0), (3, .int y1), (4, .int y2)] rfl (by decide) dL_refused_183 ?_
    refine v_iconst (v := 3) C dL_refused_185 (by decide) ?_
    exact v_iret C hQ hr rfl (Nat.le_of_ble_eq_true rfl) (Nat.le_of_ble_eq_true rfl) dL_refused_186 ⟨rfl, rfl⟩
set_option maxHeartbeats 4000000 in
set_option maxRecDepth 100000 in
theorem c_L_refused_amend_1 (l : Launch) (hl : l.stackTraces = false) (G : zG) (x : Nat) (g : XGh) (s : ZS) (t q : Int32) (y2 : Int32) (h : zH) (hi : XI G h g x s) (hw : WFs s) (hK : (kAmend s t q) = 1) : zMetL eI l yL_refused cL_refused 6 (some .int) [(0, 174, 175, 132), (0, 174, 179, 134), (0, 174, 183, 136)] 32 20 9000 G [.ref x, .int 5, .int t, .int q, .int y2] h (fun r h2 => r = 1 ∧ h = h2) := by
  refine con_ofL hl RL rfl (by decide +kernel) [(0, .ref x), (1, .int 5), (2, .int t), (3, .int q), (4, .int y2)] rfl (Nat.le_of_ble_eq_true rfl) ?_
  intro zp ze zs zm zargs zbelow zmeth zc C hr hin hto hNc Q hQ
  have hts := C.2.2.2.2.1
  refine v_iload_n C 1 rfl dL_refused_0 rfl ?_
  refine v_if_ne (tgt := 13) C dL_refused_1 (by decide) (fun c1 => ?_) (fun c1 => absurd c1 (by decide))
  refine v_iload_n C 1 rfl dL_refused_13 rfl ?_
  refine v_iconst (v := 1) C dL_refused_14 (by decide) ?_
  refine v_icmp_ne (tgt := 27) C dL_refused_15 (by decide) (fun c2 => ?_) (fun c2 => absurd c2 (by decide))
  refine v_iload_n C 1 rfl dL_refused_27 rfl ?_
  refine v_iconst (v := 2) C dL_refused_28 (by decide) ?_
  refine v_icmp_ne (tgt := 41) C dL_refused_29 (by decide) (fun c3 => ?_) (fun c3 => absurd c3 (by decide))
  refine v_iload_n C 1 rfl dL_refused_41 rfl ?_
  refine v_iconst (v := 3) C dL_refused_42 (by decide) ?_
  refine v_icmp_ne (tgt := 54) C dL_refused_43 (by decide) (fun c4 => ?_) (fun c4 => absurd c4 (by decide))
  refine v_iload_n C 1 rfl dL_refused_54 rfl ?_
  refine v_iconst (v := 4) C dL_refused_55 (by decide) ?_
  refine v_icmp_ne (tgt := 67) C dL_refused_56 (by decide) (fun c5 => ?_) (fun c5 => absurd c5 (by decide))
  refine v_iload_n C 1 rfl dL_refused_67 rfl ?_
  refine v_iconst (v := 5) C dL_refused_68 (by decide) ?_
  refine v_icmp_ne (tgt := 82) C dL_refused_69 (by decide) (fun c6 => absurd c6 (by decide)) (fun c6 => ?_)
  refine v_aload_n C 0 rfl dL_refused_72 rfl ?_
  refine v_iload_n C 2 rfl dL_refused_73 rfl ?_
  refine v_iload_n C 3 rfl dL_refused_74 rfl ?_
  refine v_callVX (rest := []) C (c_X4_amend l hl G x g s t q h hi hw) K_L_108 hi.1.1.1 rfl rfl (Nat.le_of_ble_eq_true rfl) ⟨Nat.le_of_ble_eq_true rfl, Nat.le_of_ble_eq_true rfl⟩ ⟨Nat.le_of_ble_eq_true rfl, Nat.le_of_ble_eq_true rfl⟩ dL_refused_75 (fun r7 h7 w7 => ?_) (fun E7 h7 w7 => ?_)
  · exact absurd (hK.symm.trans w7.1) (by decide)
  · obtain ⟨rfl, w7⟩ := w7
    rcases w7 with ⟨ek, rfl⟩ | ⟨ek, rfl⟩
    · refine ⟨175, zCatch_of hto [] (⟨0, 174, 175, 132⟩ : ExceptionTableEntry) [(⟨0, 174, 179, 134⟩ : ExceptionTableEntry), (⟨0, 174, 183, 136⟩ : ExceptionTableEntry)] rfl (fun z hz => absurd hz List.not_mem_nil) rfl (by decide) (hts _ LC_132) (hts _ LK_IO), fun q7 => ?_⟩
      refine v_astore C [(5, .ref q7), (0, .ref x), (1, .int 5), (2, .int t), (3, .int q), (4, .int y2)] rfl (by decide) dL_refused_175 ?_
      refine v_iconst (v := 1) C dL_refused_177 (by decide) ?_
      exact v_iret C hQ hr rfl (Nat.le_of_ble_eq_true rfl) (Nat.le_of_ble_eq_true rfl) dL_refused_178 ⟨rfl, rfl⟩
    · exact absurd (hK.symm.trans ek) (by decide)
set_option maxHeartbeats 4000000 in
set_option maxRecDepth 100000 in
theorem c_L_refused_amend_3 (l : Launch) (hl : l.stackTraces = false) (G : zG) (x : Nat) (g : XGh) (s : ZS) (t q : Int32) (y2 : Int32) (h : zH) (hi : XI G h g x s) (hw : WFs s) (hK : (kAmend s t q) = 2) : zMetL eI l yL_refused cL_refused 6 (some .int) [(0, 174, 175, 132), (0, 174, 179, 134), (0, 174, 183, 136)] 32 20 9000 G [.ref x, .int 5, .int t, .int q, .int y2] h (fun r h2 => r = 3 ∧ h = h2) := by
  refine con_ofL hl RL rfl (by decide +kernel) [(0, .ref x), (1, .int 5), (2, .int t), (3, .int q), (4, .int y2)] rfl (Nat.le_of_ble_eq_true rfl) ?_
  intro zp ze zs zm zargs zbelow zmeth zc C hr hin hto hNc Q hQ
  have hts := C.2.2.2.2.1
  refine v_iload_n C 1 rfl dL_refused_0 rfl ?_
  refine v_if_ne (tgt := 13) C dL_refused_1 (by decide) (fun c1 => ?_) (fun c1 => absurd c1 (by decide))
  refine v_iload_n C 1 rfl dL_refused_13 rfl ?_
  refine v_iconst (v := 1) C dL_refused_14 (by decide) ?_
  refine v_icmp_ne (tgt := 27) C dL_refused_15 (by decide) (fun c2 => ?_) (fun c2 => absurd c2 (by decide))
  refine v_iload_n C 1 rfl dL_refused_27 rfl ?_
  refine v_iconst (v := 2) C dL_refused_28 (by decide) ?_
  refine v_icmp_ne (tgt := 41) C dL_refused_29 (by decide) (fun c3 => ?_) (fun c3 => absurd c3 (by decide))
  refine v_iload_n C 1 rfl dL_refused_41 rfl ?_
  refine v_iconst (v := 3) C dL_refused_42 (by decide) ?_
  refine v_icmp_ne (tgt := 54) C dL_refused_43 (by decide) (fun c4 => ?_) (fun c4 => absurd c4 (by decide))
  refine v_iload_n C 1 rfl dL_refused_54 rfl ?_
  refine v_iconst (v := 4) C dL_refused_55 (by decide) ?_
  refine v_icmp_ne (tgt := 67) C dL_refused_56 (by decide) (fun c5 => ?_) (fun c5 => absurd c5 (by decide))
  refine v_iload_n C 1 rfl dL_refused_67 rfl ?_
  refine v_iconst (v := 5) C dL_refused_68 (by decide) ?_
  refine v_icmp_ne (tgt := 82) C dL_refused_69 (by decide) (fun c6 => absurd c6 (by decide)) (fun c6 => ?_)
  refine v_aload_n C 0 rfl dL_refused_72 rfl ?_
  refine v_iload_n C 2 rfl dL_refused_73 rfl ?_
  refine v_iload_n C 3 rfl dL_refused_74 rfl ?_
  refine v_callVX (rest := []) C (c_X4_amend l hl G x g s t q h hi hw) K_L_108 hi.1.1.1 rfl rfl (Nat.le_of_ble_eq_true rfl) ⟨Nat.le_of_ble_eq_true rfl, Nat.le_of_ble_eq_true rfl⟩ ⟨Nat.le_of_ble_eq_true rfl, Nat.le_of_ble_eq_true rfl⟩ dL_refused_75 (fun r7 h7 w7 => ?_) (fun E7 h7 w7 => ?_)
  · exact absurd (hK.symm.trans w7.1) (by decide)
  · obtain ⟨rfl, w7⟩ := w7
    rcases w7 with ⟨ek, rfl⟩ | ⟨ek, rfl⟩
    · exact absurd (hK.symm.trans ek) (by decide)
    · refine ⟨183, zCatch_of hto [(⟨0, 174, 175, 132⟩ : ExceptionTableEntry), (⟨0, 174, 179, 134⟩ : ExceptionTableEntry)] (⟨0, 174, 183, 136⟩ : ExceptionTableEntry) [] rfl (List.forall_mem_cons.mpr ⟨⟨by decide, _, hts _ LC_132, hNc.2.1⟩, (List.forall_mem_cons.mpr ⟨⟨by decide, _, hts _ LC_134, hNc.2.2.1⟩, (fun z hz => absurd hz List.not_mem_nil)⟩)⟩) rfl (by decide) (hts _ LC_136) (hts _ LK_IS), fun q7 => ?_⟩
      refine v_astore C [(5, .ref q7), (0, .ref x), (1, .int 5), (2, .int t), (3, .int q), (4, .int y2)] rfl (by decide) dL_refused_183 ?_
      refine v_iconst (v := 3) C dL_refused_185 (by decide) ?_
      exact v_iret C hQ hr rfl (Nat.le_of_ble_eq_true rfl) (Nat.le_of_ble_eq_true rfl) dL_refused_186 ⟨rfl, rfl⟩
set_option maxHeartbeats 4000000 in
set_option maxRecDepth 100000 in
theorem c_L_refused_cure_3 (l : Launch) (hl : l.stackTraces = false) (G : zG) (x : Nat) (g : XGh) (s : ZS) (r q v : Int32) (h : zH) (hi : XI G h g x s) (hw : WFs s) (hK : (kCure s r q v) = 3) : zMetL eI l yL_refused cL_refused 6 (some .int) [(0, 174, 175, 132), (0, 174, 179, 134), (0, 174, 183, 136)] 16 10 200 G [.ref x, .int 6, .int r, .int q, .int v] h (fun r h2 => r = 3 ∧ h = h2) := by
  refine con_ofL hl RL rfl (by decide +kernel) [(0, .ref x), (1, .int 6), (2, .int r), (3, .int q), (4, .int v)] rfl (Nat.le_of_ble_eq_true rfl) ?_
  intro zp ze zs zm zargs zbelow zmeth zc C hr hin hto hNc Q hQ
  have hts := C.2.2.2.2.1
  refine v_iload_n C 1 rfl dL_refused_0 rfl ?_
  refine v_if_ne (tgt := 13) C dL_refused_1 (by decide) (fun c1 => ?_) (fun c1 => absurd c1 (by decide))
  refine v_iload_n C 1 rfl dL_refused_13 rfl ?_
  refine v_iconst (v := 1) C dL_refused_14 (by decide) ?_
  refine v_icmp_ne (tgt := 27) C dL_refused_15 (by decide) (fun c2 => ?_) (fun c2 => absurd c2 (by decide))
  refine v_iload_n C 1 rfl dL_refused_27 rfl ?_
  refine v_iconst (v := 2) C dL_refused_28 (by decide) ?_
  refine v_icmp_ne (tgt := 41) C dL_refused_29 (by decide) (fun c3 => ?_) (fun c3 => absurd c3 (by decide))
  refine v_iload_n C 1 rfl dL_refused_41 rfl ?_
  refine v_iconst (v := 3) C dL_refused_42 (by decide) ?_
  refine v_icmp_ne (tgt := 54) C dL_refused_43 (by decide) (fun c4 => ?_) (fun c4 => absurd c4 (by decide))
  refine v_iload_n C 1 rfl dL_refused_54 rfl ?_
  refine v_iconst (v := 4) C dL_refused_55 (by decide) ?_
  refine v_icmp_ne (tgt := 67) C dL_refused_56 (by decide) (fun c5 => ?_) (fun c5 => absurd c5 (by decide))
  refine v_iload_n C 1 rfl dL_refused_67 rfl ?_
  refine v_iconst (v := 5) C dL_refused_68 (by decide) ?_
  refine v_icmp_ne (tgt := 82) C dL_refused_69 (by decide) (fun c6 => ?_) (fun c6 => absurd c6 (by decide))
  refine v_iload_n C 1 rfl dL_refused_82 rfl ?_
  refine v_bipush (v := 6) C dL_refused_83 (by decide) ?_
  refine v_icmp_ne (tgt := 100) C dL_refused_85 (by decide) (fun c7 => absurd c7 (by decide)) (fun c7 => ?_)
  refine v_aload_n C 0 rfl dL_refused_88 rfl ?_
  refine v_iload_n C 2 rfl dL_refused_89 rfl ?_
  refine v_iload_n C 3 rfl dL_refused_90 rfl ?_
  refine v_iload C 4 rfl dL_refused_91 ?_
  refine v_callVX (rest := []) C (c_X4_cure l hl G x g s r q v h hi hw) K_L_111 hi.1.1.1 rfl rfl (Nat.le_of_ble_eq_true rfl) ⟨Nat.le_of_ble_eq_true rfl, Nat.le_of_ble_eq_true rfl⟩ ⟨Nat.le_of_ble_eq_true rfl, Nat.le_of_ble_eq_true rfl⟩ dL_refused_93 (fun r8 h8 w8 => ?_) (fun E8 h8 w8 => ?_)
  · exact absurd (hK.symm.trans w8.1) (by decide)
  · obtain ⟨rfl, w8⟩ := w8
    rcases w8 with ⟨ek, rfl⟩ | ⟨ek, rfl⟩ | ⟨ek, rfl⟩
    · exact absurd (hK.symm.trans ek) (by decide)
    · exact absurd (hK.symm.trans ek) (by decide)
    · refine ⟨183, zCatch_of hto [(⟨0, 174, 175, 132⟩ : ExceptionTableEntry), (⟨0, 174, 179, 134⟩ : ExceptionTableEntry)] (⟨0, 174, 183, 136⟩ : ExceptionTableEntry) [] rfl (List.forall_mem_cons.mpr ⟨⟨by decide, _, hts _ LC_132, hNc.2.1⟩, (List.forall_mem_cons.mpr ⟨⟨by decide, _, hts _ LC_134, hNc.2.2.1⟩, (fun z hz => absurd hz List.not_mem_nil)⟩)⟩) rfl (by decide) (hts _ LC_136) (hts _ LK_IS), fun q8 => ?_⟩
      refine v_astore C [(5, .ref q8), (0, .ref x), (1, .int 6), (2, .int r), (3, .int q), (4, .int v)] rfl (by decide) dL_refused_183 ?_
      refine v_iconst (v := 3) C dL_refused_185 (by decide) ?_
      exact v_iret C hQ hr rfl (Nat.le_of_ble_eq_true rfl) (Nat.le_of_ble_eq_true rfl) dL_refused_186 ⟨rfl, rfl⟩
set_option maxHeartbeats 4000000 in
set_option maxRecDepth 100000 in
theorem c_L_refused_room_3 (l : Launch) (hl : l.stackTraces = false) (G : zG) (x : Nat) (g : XGh) (s : ZS) (r q : Int32) (y2 : Int32) (h : zH) (hi : XI G h g x s) (hw : WFs s) (hK : (kRoom s r q) = 2) : zMetL eI l yL_refused cL_refused 6 (some .int) [(0, 174, 175, 132), (0, 174, 179, 134), (0, 174, 183, 136)] 16 10 200 G [.ref x, .int 7, .int r, .int q, .int y2] h (fun r h2 => r = 3 ∧ h = h2) := by
  refine con_ofL hl RL rfl (by decide +kernel) [(0, .ref x), (1, .int 7), (2, .int r), (3, .int q), (4, .int y2)] rfl (Nat.le_of_ble_eq_true rfl) ?_
  intro zp ze zs zm zargs zbelow zmeth zc C hr hin hto hNc Q hQ
  have hts := C.2.2.2.2.1
  refine v_iload_n C 1 rfl dL_refused_0 rfl ?_
  refine v_if_ne (tgt := 13) C dL_refused_1 (by decide) (fun c1 => ?_) (fun c1 => absurd c1 (by decide))
  refine v_iload_n C 1 rfl dL_refused_13 rfl ?_
  refine v_iconst (v := 1) C dL_refused_14 (by decide) ?_
  refine v_icmp_ne (tgt := 27) C dL_refused_15 (by decide) (fun c2 => ?_) (fun c2 => absurd c2 (by decide))
  refine v_iload_n C 1 rfl dL_refused_27 rfl ?_
  refine v_iconst (v := 2) C dL_refused_28 (by decide) ?_
  refine v_icmp_ne (tgt := 41) C dL_refused_29 (by decide) (fun c3 => ?_) (fun c3 => absurd c3 (by decide))
  refine v_iload_n C 1 rfl dL_refused_41 rfl ?_
  refine v_iconst (v := 3) C dL_refused_42 (by decide) ?_
  refine v_icmp_ne (tgt := 54) C dL_refused_43 (by decide) (fun c4 => ?_) (fun c4 => absurd c4 (by decide))
  refine v_iload_n C 1 rfl dL_refused_54 rfl ?_
  refine v_iconst (v := 4) C dL_refused_55 (by decide) ?_
  refine v_icmp_ne (tgt := 67) C dL_refused_56 (by decide) (fun c5 => ?_) (fun c5 => absurd c5 (by decide))
  refine v_iload_n C 1 rfl dL_refused_67 rfl ?_
  refine v_iconst (v := 5) C dL_refused_68 (by decide) ?_
  refine v_icmp_ne (tgt := 82) C dL_refused_69 (by decide) (fun c6 => ?_) (fun c6 => absurd c6 (by decide))
  refine v_iload_n C 1 rfl dL_refused_82 rfl ?_
  refine v_bipush (v := 6) C dL_refused_83 (by decide) ?_
  refine v_icmp_ne (tgt := 100) C dL_refused_85 (by decide) (fun c7 => ?_) (fun c7 => absurd c7 (by decide))
  refine v_iload_n C 1 rfl dL_refused_100 rfl ?_
  refine v_bipush (v := 7) C dL_refused_101 (by decide) ?_
  refine v_icmp_ne (tgt := 115) C dL_refused_103 (by decide) (fun c8 => absurd c8 (by decide)) (fun c8 => ?_)
  refine v_aload_n C 0 rfl dL_refused_106 rfl ?_
  refine v_iload_n C 2 rfl dL_refused_107 rfl ?_
  refine v_iload_n C 3 rfl dL_refused_108 rfl ?_
  refine v_callVX (rest := []) C (c_X4_room l hl G x g s r q h hi hw) K_L_114 hi.1.1.1 rfl rfl (Nat.le_of_ble_eq_true rfl) ⟨Nat.le_of_ble_eq_true rfl, Nat.le_of_ble_eq_true rfl⟩ ⟨Nat.le_of_ble_eq_true rfl, Nat.le_of_ble_eq_true rfl⟩ dL_refused_109 (fun r9 h9 w9 => ?_) (fun E9 h9 w9 => ?_)
  · exact absurd (hK.symm.trans w9.1) (by decide)
  · obtain ⟨rfl, w9⟩ := w9
    rcases w9 with ⟨ek, rfl⟩ | ⟨ek, rfl⟩
    · exact absurd (hK.symm.trans ek) (by decide)
    · refine ⟨183, zCatch_of hto [(⟨0, 174, 175, 132⟩ : ExceptionTableEntry), (⟨0, 174, 179, 134⟩ : ExceptionTableEntry)] (⟨0, 174, 183, 136⟩ : ExceptionTableEntry) [] rfl (List.forall_mem_cons.mpr ⟨⟨by decide, _, hts _ LC_132, hNc.2.1⟩, (List.forall_mem_cons.mpr ⟨⟨by decide, _, hts _ LC_134, hNc.2.2.1⟩, (fun z hz => absurd hz List.not_mem_nil)⟩)⟩) rfl (by decide) (hts _ LC_136) (hts _ LK_IS), fun q9 => ?_⟩
      refine v_astore C [(5, .ref q9), (0, .ref x), (1, .int 7), (2, .int r), (3, .int q), (4, .int y2)] rfl (by decide) dL_refused_183 ?_
      refine v_iconst (v := 3) C dL_refused_185 (by decide) ?_
      exact v_iret C hQ hr rfl (Nat.le_of_ble_eq_true rfl) (Nat.le_of_ble_eq_true rfl) dL_refused_186 ⟨rfl, rfl⟩
set_option maxHeartbeats 4000000 in
set_option maxRecDepth 100000 in
theorem c_L_refused_use_3 (l : Launch) (hl : l.stackTraces = false) (G : zG) (x : Nat) (g : XGh) (s : ZS) (b q v : Int32) (h : zH) (hi : XI G h g x s) (hw : WFs s) (hK : (kUse s b q v) = 3) : zMetL eI l yL_refused cL_refused 6 (some .int) [(0, 174, 175, 132), (0, 174, 179, 134), (0, 174, 183, 136)] 16 10 200 G [.ref x, .int 8, .int b, .int q, .int v] h (fun r h2 => r = 3 ∧ h = h2) := by
  refine con_ofL hl RL rfl (by decide +kernel) [(0, .ref x), (1, .int 8), (2, .int b), (3, .int q), (4, .int v)] rfl (Nat.le_of_ble_eq_true rfl) ?_
  intro zp ze zs zm zargs zbelow zmeth zc C hr hin hto hNc Q hQ
  have hts := C.2.2.2.2.1
  refine v_iload_n C 1 rfl dL_refused_0 rfl ?_
  refine v_if_ne (tgt := 13) C dL_refused_1 (by decide) (fun c1 => ?_) (fun c1 => absurd c1 (by decide))
  refine v_iload_n C 1 rfl dL_refused_13 rfl ?_
  refine v_iconst (v := 1) C dL_refused_14 (by decide) ?_
  refine v_icmp_ne (tgt := 27) C dL_refused_15 (by decide) (fun c2 => ?_) (fun c2 => absurd c2 (by decide))
  refine v_iload_n C 1 rfl dL_refused_27 rfl ?_
  refine v_iconst (v := 2) C dL_refused_28 (by decide) ?_
  refine v_icmp_ne (tgt := 41) C dL_refused_29 (by decide) (fun c3 => ?_) (fun c3 => absurd c3 (by decide))
  refine v_iload_n C 1 rfl dL_refused_41 rfl ?_
  refine v_iconst (v := 3) C dL_refused_42 (by decide) ?_
  refine v_icmp_ne (tgt := 54) C dL_refused_43 (by decide) (fun c4 => ?_) (fun c4 => absurd c4 (by decide))
  refine v_iload_n C 1 rfl dL_refused_54 rfl ?_
  refine v_iconst (v := 4) C dL_refused_55 (by decide) ?_
  refine v_icmp_ne (tgt := 67) C dL_refused_56 (by decide) (fun c5 => ?_) (fun c5 => absurd c5 (by decide))
  refine v_iload_n C 1 rfl dL_refused_67 rfl ?_
  refine v_iconst (v := 5) C dL_refused_68 (by decide) ?_
  refine v_icmp_ne (tgt := 82) C dL_refused_69 (by decide) (fun c6 => ?_) (fun c6 => absurd c6 (by decide))
  refine v_iload_n C 1 rfl dL_refused_82 rfl ?_
  refine v_bipush (v := 6) C dL_refused_83 (by decide) ?_
  refine v_icmp_ne (tgt := 100) C dL_refused_85 (by decide) (fun c7 => ?_) (fun c7 => absurd c7 (by decide))
  refine v_iload_n C 1 rfl dL_refused_100 rfl ?_
  refine v_bipush (v := 7) C dL_refused_101 (by decide) ?_
  refine v_icmp_ne (tgt := 115) C dL_refused_103 (by decide) (fun c8 => ?_) (fun c8 => absurd c8 (by decide))
  refine v_iload_n C 1 rfl dL_refused_115 rfl ?_
  refine v_bipush (v := 8) C dL_refused_116 (by decide) ?_
  refine v_icmp_ne (tgt := 132) C dL_refused_118 (by decide) (fun c9 => absurd c9 (by decide)) (fun c9 => ?_)
  refine v_aload_n C 0 rfl dL_refused_121 rfl ?_
  refine v_iload_n C 2 rfl dL_refused_122 rfl ?_
  refine v_iload_n C 3 rfl dL_refused_123 rfl ?_
  refine v_iload C 4 rfl dL_refused_124 ?_
  refine v_callVX (rest := []) C (c_X4_use l hl G x g s b q v h hi hw) K_L_118 hi.1.1.1 rfl rfl (Nat.le_of_ble_eq_true rfl) ⟨Nat.le_of_ble_eq_true rfl, Nat.le_of_ble_eq_true rfl⟩ ⟨Nat.le_of_ble_eq_true rfl, Nat.le_of_ble_eq_true rfl⟩ dL_refused_126 (fun r10 h10 w10 => ?_) (fun E10 h10 w10 => ?_)
  · exact absurd (hK.symm.trans w10.1) (by decide)
  · obtain ⟨rfl, w10⟩ := w10
    rcases w10 with ⟨ek, rfl⟩ | ⟨ek, rfl⟩ | ⟨ek, rfl⟩
    · exact absurd (hK.symm.trans ek) (by decide)
    · exact absurd (hK.symm.trans ek) (by decide)
    · refine ⟨183, zCatch_of hto [(⟨0, 174, 175, 132⟩ : ExceptionTableEntry), (⟨0, 174, 179, 134⟩ : ExceptionTableEntry)] (⟨0, 174, 183, 136⟩ : ExceptionTableEntry) [] rfl (List.forall_mem_cons.mpr ⟨⟨by decide, _, hts _ LC_132, hNc.2.1⟩, (List.forall_mem_cons.mpr ⟨⟨by decide, _, hts _ LC_134, hNc.2.2.1⟩, (fun z hz => absurd hz List.not_mem_nil)⟩)⟩) rfl (by decide) (hts _ LC_136) (hts _ LK_IS), fun q10 => ?_⟩
      refine v_astore C [(5, .ref q10), (0, .ref x), (1, .int 8), (2, .int b), (3, .int q), (4, .int v)] rfl (by decide) dL_refused_183 ?_
      refine v_iconst (v := 3) C dL_refused_185 (by decide) ?_
      exact v_iret C hQ hr rfl (Nat.le_of_ble_eq_true rfl) (Nat.le_of_ble_eq_true rfl) dL_refused_186 ⟨rfl, rfl⟩
set_option maxHeartbeats 4000000 in
set_option maxRecDepth 100000 in
theorem c_L_refused_refill_3 (l : Launch) (hl : l.stackTraces = false) (G : zG) (x : Nat) (g : XGh) (s : ZS) (b v : Int32) (y2 : Int32) (h : zH) (hi : XI G h g x s) (hw : WFs s) (hK : (kRefill s b v) = 3) : zMetL eI l yL_refused cL_refused 6 (some .int) [(0, 174, 175, 132), (0, 174, 179, 134), (0, 174, 183, 136)] 16 10 200 G [.ref x, .int 9, .int b, .int v, .int y2] h (fun r h2 => r = 3 ∧ h = h2) := by
  refine con_ofL hl RL rfl (by decide +kernel) [(0, .ref x), (1, .int 9), (2, .int b), (3, .int v), (4, .int y2)] rfl (Nat.le_of_ble_eq_true rfl) ?_
  intro zp ze zs zm zargs zbelow zmeth zc C hr hin hto hNc Q hQ
  have hts := C.2.2.2.2.1
  refine v_iload_n C 1 rfl dL_refused_0 rfl ?_
  refine v_if_ne (tgt := 13) C dL_refused_1 (by decide) (fun c1 => ?_) (fun c1 => absurd c1 (by decide))
  refine v_iload_n C 1 rfl dL_refused_13 rfl ?_
  refine v_iconst (v := 1) C dL_refused_14 (by decide) ?_
  refine v_icmp_ne (tgt := 27) C dL_refused_15 (by decide) (fun c2 => ?_) (fun c2 => absurd c2 (by decide))
  refine v_iload_n C 1 rfl dL_refused_27 rfl ?_
  refine v_iconst (v := 2) C dL_refused_28 (by decide) ?_
  refine v_icmp_ne (tgt := 41) C dL_refused_29 (by decide) (fun c3 => ?_) (fun c3 => absurd c3 (by decide))
  refine v_iload_n C 1 rfl dL_refused_41 rfl ?_
  refine v_iconst (v := 3) C dL_refused_42 (by decide) ?_
  refine v_icmp_ne (tgt := 54) C dL_refused_43 (by decide) (fun c4 => ?_) (fun c4 => absurd c4 (by decide))
  refine v_iload_n C 1 rfl dL_refused_54 rfl ?_
  refine v_iconst (v := 4) C dL_refused_55 (by decide) ?_
  refine v_icmp_ne (tgt := 67) C dL_refused_56 (by decide) (fun c5 => ?_) (fun c5 => absurd c5 (by decide))
  refine v_iload_n C 1 rfl dL_refused_67 rfl ?_
  refine v_iconst (v := 5) C dL_refused_68 (by decide) ?_
  refine v_icmp_ne (tgt := 82) C dL_refused_69 (by decide) (fun c6 => ?_) (fun c6 => absurd c6 (by decide))
  refine v_iload_n C 1 rfl dL_refused_82 rfl ?_
  refine v_bipush (v := 6) C dL_refused_83 (by decide) ?_
  refine v_icmp_ne (tgt := 100) C dL_refused_85 (by decide) (fun c7 => ?_) (fun c7 => absurd c7 (by decide))
  refine v_iload_n C 1 rfl dL_refused_100 rfl ?_
  refine v_bipush (v := 7) C dL_refused_101 (by decide) ?_
  refine v_icmp_ne (tgt := 115) C dL_refused_103 (by decide) (fun c8 => ?_) (fun c8 => absurd c8 (by decide))
  refine v_iload_n C 1 rfl dL_refused_115 rfl ?_
  refine v_bipush (v := 8) C dL_refused_116 (by decide) ?_
  refine v_icmp_ne (tgt := 132) C dL_refused_118 (by decide) (fun c9 => ?_) (fun c9 => absurd c9 (by decide))
  refine v_iload_n C 1 rfl dL_refused_132 rfl ?_
  refine v_bipush (v := 9) C dL_refused_133 (by decide) ?_
  refine v_icmp_ne (tgt := 147) C dL_refused_135 (by decide) (fun c10 => absurd c10 (by decide)) (fun c10 => ?_)
  refine v_aload_n C 0 rfl dL_refused_138 rfl ?_
  refine v_iload_n C 2 rfl dL_refused_139 rfl ?_
  refine v_iload_n C 3 rfl dL_refused_140 rfl ?_
  refine v_callVX (rest := []) C (c_X4_refill l hl G x g s b v h hi hw) K_L_122 hi.1.1.1 rfl rfl (Nat.le_of_ble_eq_true rfl) ⟨Nat.le_of_ble_eq_true rfl, Nat.le_of_ble_eq_true rfl⟩ ⟨Nat.le_of_ble_eq_true rfl, Nat.le_of_ble_eq_true rfl⟩ dL_refused_141 (fun r11 h11 w11 => ?_) (fun E11 h11 w11 => ?_)
  · exact absurd (hK.symm.trans w11.1) (by decide)
  · obtain ⟨rfl, w11⟩ := w11
    rcases w11 with ⟨ek, rfl⟩ | ⟨ek, rfl⟩ | ⟨ek, rfl⟩
    · exact absurd (hK.symm.trans ek) (by decide)
    · exact absurd (hK.symm.trans ek) (by decide)
    · refine ⟨183, zCatch_of hto [(⟨0, 174, 175, 132⟩ : ExceptionTableEntry), (⟨0, 174, 179, 134⟩ : ExceptionTableEntry)] (⟨0, 174, 183, 136⟩ : ExceptionTableEntry) [] rfl (List.forall_mem_cons.mpr ⟨⟨by decide, _, hts _ LC_132, hNc.2.1⟩, (List.forall_mem_cons.mpr ⟨⟨by decide, _, hts _ LC_134, hNc.2.2.1⟩, (fun z hz => absurd hz List.not_mem_nil)⟩)⟩) rfl (by decide) (hts _ LC_136) (hts _ LK_IS), fun q11 => ?_⟩
      refine v_astore C [(5, .ref q11), (0, .ref x), (1, .int 9), (2, .int b), (3, .int v), (4, .int y2)] rfl (by decide) dL_refused_183 ?_
      refine v_iconst (v := 3) C dL_refused_185 (by decide) ?_
      exact v_iret C hQ hr rfl (Nat.le_of_ble_eq_true rfl) (Nat.le_of_ble_eq_true rfl) dL_refused_186 ⟨rfl, rfl⟩
set_option maxHeartbeats 4000000 in
set_option maxRecDepth 100000 in
theorem c_L_refused_value_1 (l : Launch) (hl : l.stackTraces = false) (G : zG) (x : Nat) (g : XGh) (s : ZS) (t q : Int32) (y2 : Int32) (h : zH) (hi : XI G h g x s) (hw : WFs s) (hK : (kIsTQ s t q) = 1) : zMetL eI l yL_refused cL_refused 6 (some .int) [(0, 174, 175, 132), (0, 174, 179, 134), (0, 174, 183, 136)] 16 10 200 G [.ref x, .int 10, .int t, .int q, .int y2] h (fun r h2 => r = 1 ∧ h = h2) := by
  refine con_ofL hl RL rfl (by decide +kernel) [(0, .ref x), (1, .int 10), (2, .int t), (3, .int q), (4, .int y2)] rfl (Nat.le_of_ble_eq_true rfl) ?_
  intro zp ze zs zm zargs zbelow zmeth zc C hr hin hto hNc Q hQ
  have hts := C.2.2.2.2.1
  refine v_iload_n C 1 rfl dL_refused_0 rfl ?_
  refine v_if_ne (tgt := 13) C dL_refused_1 (by decide) (fun c1 => ?_) (fun c1 => absurd c1 (by decide))
  refine v_iload_n C 1 rfl dL_refused_13 rfl ?_
  refine v_iconst (v := 1) C dL_refused_14 (by decide) ?_
  refine v_icmp_ne (tgt := 27) C dL_refused_15 (by decide) (fun c2 => ?_) (fun c2 => absurd c2 (by decide))
  refine v_iload_n C 1 rfl dL_refused_27 rfl ?_
  refine v_iconst (v := 2) C dL_refused_28 (by decide) ?_
  refine v_icmp_ne (tgt := 41) C dL_refused_29 (by decide) (fun c3 => ?_) (fun c3 => absurd c3 (by decide))
  refine v_iload_n C 1 rfl dL_refused_41 rfl ?_
  refine v_iconst (v := 3) C dL_refused_42 (by decide) ?_
  refine v_icmp_ne (tgt := 54) C dL_refused_43 (by decide) (fun c4 => ?_) (fun c4 => absurd c4 (by decide))
  refine v_iload_n C 1 rfl dL_refused_54 rfl ?_
  refine v_iconst (v := 4) C dL_refused_55 (by decide) ?_
  refine v_icmp_ne (tgt := 67) C dL_refused_56 (by decide) (fun c5 => ?_) (fun c5 => absurd c5 (by decide))
  refine v_iload_n C 1 rfl dL_refused_67 rfl ?_
  refine v_iconst (v := 5) C dL_refused_68 (by decide) ?_
  refine v_icmp_ne (tgt := 82) C dL_refused_69 (by decide) (fun c6 => ?_) (fun c6 => absurd c6 (by decide))
  refine v_iload_n C 1 rfl dL_refused_82 rfl ?_
  refine v_bipush (v := 6) C dL_refused_83 (by decide) ?_
  refine v_icmp_ne (tgt := 100) C dL_refused_85 (by decide) (fun c7 => ?_) (fun c7 => absurd c7 (by decide))
  refine v_iload_n C 1 rfl dL_refused_100 rfl ?_
  refine v_bipush (v := 7) C dL_refused_101 (by decide) ?_
  refine v_icmp_ne (tgt := 115) C dL_refused_103 (by decide) (fun c8 => ?_) (fun c8 => absurd c8 (by decide))
  refine v_iload_n C 1 rfl dL_refused_115 rfl ?_
  refine v_bipush (v := 8) C dL_refused_116 (by decide) ?_
  refine v_icmp_ne (tgt := 132) C dL_refused_118 (by decide) (fun c9 => ?_) (fun c9 => absurd c9 (by decide))
  refine v_iload_n C 1 rfl dL_refused_132 rfl ?_
  refine v_bipush (v := 9) C dL_refused_133 (by decide) ?_
  refine v_icmp_ne (tgt := 147) C dL_refused_135 (by decide) (fun c10 => ?_) (fun c10 => absurd c10 (by decide))
  refine v_iload_n C 1 rfl dL_refused_147 rfl ?_
  refine v_bipush (v := 10) C dL_refused_148 (by decide) ?_
  refine v_icmp_ne (tgt := 162) C dL_refused_150 (by decide) (fun c11 => absurd c11 (by decide)) (fun c11 => ?_)
  refine v_aload_n C 0 rfl dL_refused_153 rfl ?_
  refine v_iload_n C 2 rfl dL_refused_154 rfl ?_
  refine v_iload_n C 3 rfl dL_refused_155 rfl ?_
  refine v_callVX (rest := []) C (c_X4_value l hl G x g s t q h hi hw) K_L_125 hi.1.1.1 rfl rfl (Nat.le_of_ble_eq_true rfl) ⟨Nat.le_of_ble_eq_true rfl, Nat.le_of_ble_eq_true rfl⟩ ⟨Nat.le_of_ble_eq_true rfl, Nat.le_of_ble_eq_true rfl⟩ dL_refused_156 (fun r12 h12 w12 => ?_) (fun E12 h12 w12 => ?_)
  · exact absurd (hK.symm.trans w12.1) (by decide)
  · obtain ⟨rfl, w12⟩ := w12
    obtain ⟨ek, rfl⟩ := w12
    refine ⟨175, zCatch_of hto [] (⟨0, 174, 175, 132⟩ : ExceptionTableEntry) [(⟨0, 174, 179, 134⟩ : ExceptionTableEntry), (⟨0, 174, 183, 136⟩ : ExceptionTableEntry)] rfl (fun z hz => absurd hz List.not_mem_nil) rfl (by decide) (hts _ LC_132) (hts _ LK_IO), fun q12 => ?_⟩
    refine v_astore C [(5, .ref q12), (0, .ref x), (1, .int 10), (2, .int t), (3, .int q), (4, .int y2)] rfl (by decide) dL_refused_175 ?_
    refine v_iconst (v := 1) C dL_refused_177 (by decide) ?_
    exact v_iret C hQ hr rfl (Nat.le_of_ble_eq_true rfl) (Nat.le_of_ble_eq_true rfl) dL_refused_178 ⟨rfl, rfl⟩
set_option maxHeartbeats 4000000 in
set_option maxRecDepth 100000 in
theorem c_L_refused_textChar_1 (l : Launch) (hl : l.stackTraces = false) (G : zG) (x : Nat) (g : XGh) (s : ZS) (t q j : Int32) (h : zH) (hi : XI G h g x s) (hw : WFs s) (hK : (kChar s t q j) = 1) : zMetL eI l yL_refused cL_refused 6 (some .int) [(0, 174, 175, 132), (0, 174, 179, 134), (0, 174, 183, 136)] 17 10 200 G [.ref x, .int 11, .int t, .int q, .int j] h (fun r h2 => r = 1 ∧ h = h2) := by
  refine con_ofL hl RL rfl (by decide +kernel) [(0, .ref x), (1, .int 11), (2, .int t), (3, .int q), (4, .int j)] rfl (Nat.le_of_ble_eq_true rfl) ?_
  intro zp ze zs zm zargs zbelow zmeth zc C hr hin hto hNc Q hQ
  have hts := C.2.2.2.2.1
  refine v_iload_n C 1 rfl dL_refused_0 rfl ?_
  refine v_if_ne (tgt := 13) C dL_refused_1 (by decide) (fun c1 => ?_) (fun c1 => absurd c1 (by decide))
  refine v_iload_n C 1 rfl dL_refused_13 rfl ?_
  refine v_iconst (v := 1) C dL_refused_14 (by decide) ?_
  refine v_icmp_ne (tgt := 27) C dL_refused_15 (by decide) (fun c2 => ?_) (fun c2 => absurd c2 (by decide))
  refine v_iload_n C 1 rfl dL_refused_27 rfl ?_
  refine v_iconst (v := 2) C dL_refused_28 (by decide) ?_
  refine v_icmp_ne (tgt := 41) C dL_refused_29 (by decide) (fun c3 => ?_) (fun c3 => absurd c3 (by decide))
  refine v_iload_n C 1 rfl dL_refused_41 rfl ?_
  refine v_iconst (v := 3) C dL_refused_42 (by decide) ?_
  refine v_icmp_ne (tgt := 54) C dL_refused_43 (by decide) (fun c4 => ?_) (fun c4 => absurd c4 (by decide))
  refine v_iload_n C 1 rfl dL_refused_54 rfl ?_
  refine v_iconst (v := 4) C dL_refused_55 (by decide) ?_
  refine v_icmp_ne (tgt := 67) C dL_refused_56 (by decide) (fun c5 => ?_) (fun c5 => absurd c5 (by decide))
  refine v_iload_n C 1 rfl dL_refused_67 rfl ?_
  refine v_iconst (v := 5) C dL_refused_68 (by decide) ?_
  refine v_icmp_ne (tgt := 82) C dL_refused_69 (by decide) (fun c6 => ?_) (fun c6 => absurd c6 (by decide))
  refine v_iload_n C 1 rfl dL_refused_82 rfl ?_
  refine v_bipush (v := 6) C dL_refused_83 (by decide) ?_
  refine v_icmp_ne (tgt := 100) C dL_refused_85 (by decide) (fun c7 => ?_) (fun c7 => absurd c7 (by decide))
  refine v_iload_n C 1 rfl dL_refused_100 rfl ?_
  refine v_bipush (v := 7) C dL_refused_101 (by decide) ?_
  refine v_icmp_ne (tgt := 115) C dL_refused_103 (by decide) (fun c8 => ?_) (fun c8 => absurd c8 (by decide))
  refine v_iload_n C 1 rfl dL_refused_115 rfl ?_
  refine v_bipush (v := 8) C dL_refused_116 (by decide) ?_
  refine v_icmp_ne (tgt := 132) C dL_refused_118 (by decide) (fun c9 => ?_) (fun c9 => absurd c9 (by decide))
  refine v_iload_n C 1 rfl dL_refused_132 rfl ?_
  refine v_bipush (v := 9) C dL_refused_133 (by decide) ?_
  refine v_icmp_ne (tgt := 147) C dL_refused_135 (by decide) (fun c10 => ?_) (fun c10 => absurd c10 (by decide))
  refine v_iload_n C 1 rfl dL_refused_147 rfl ?_
  refine v_bipush (v := 10) C dL_refused_148 (by decide) ?_
  refine v_icmp_ne (tgt := 162) C dL_refused_150 (by decide) (fun c11 => ?_) (fun c11 => absurd c11 (by decide))
  refine v_aload_n C 0 rfl dL_refused_162 rfl ?_
  refine v_iload_n C 2 rfl dL_refused_163 rfl ?_
  refine v_iload_n C 3 rfl dL_refused_164 rfl ?_
  refine v_iload C 4 rfl dL_refused_165 ?_
  refine v_callVX (rest := []) C (c_X4_textChar l hl G x g s t q j h hi hw) K_L_128 hi.1.1.1 rfl rfl (Nat.le_of_ble_eq_true rfl) ⟨Nat.le_of_ble_eq_true rfl, Nat.le_of_ble_eq_true rfl⟩ ⟨Nat.le_of_ble_eq_true rfl, Nat.le_of_ble_eq_true rfl⟩ dL_refused_167 (fun r12 h12 w12 => ?_) (fun E12 h12 w12 => ?_)
  · exact absurd (hK.symm.trans w12.1) (by decide)
  · obtain ⟨rfl, w12⟩ := w12
    obtain ⟨ek, rfl⟩ := w12
    refine ⟨175, zCatch_of hto [] (⟨0, 174, 175, 132⟩ : ExceptionTableEntry) [(⟨0, 174, 179, 134⟩ : ExceptionTableEntry), (⟨0, 174, 183, 136⟩ : ExceptionTableEntry)] rfl (fun z hz => absurd hz List.not_mem_nil) rfl (by decide) (hts _ LC_132) (hts _ LK_IO), fun q12 => ?_⟩
    refine v_astore C [(5, .ref q12), (0, .ref x), (1, .int 11), (2, .int t), (3, .int q), (4, .int j)] rfl (by decide) dL_refused_175 ?_
    refine v_iconst (v := 1) C dL_refused_177 (by decide) ?_
    exact v_iret C hQ hr rfl (Nat.le_of_ble_eq_true rfl) (Nat.le_of_ble_eq_true rfl) dL_refused_178 ⟨rfl, rfl⟩

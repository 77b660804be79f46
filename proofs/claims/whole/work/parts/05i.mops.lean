theorem cnt_up {p : Nat → Bool} {i : Nat} (h : p i = true) : cnt p i + 1 = cnt p (i + 1) := by
  show _ = cnt p i + _
  rw [if_pos h]
theorem cnt_st {p : Nat → Bool} {i : Nat} (h : ¬ p i = true) : cnt p i + 0 = cnt p (i + 1) := by
  show _ = cnt p i + _
  rw [if_neg h]
def lmB (l : Nat → Int32) : Nat → Int32
  | 0 => -1
  | n + 1 => if l n = -1 then lmB l n else l n
theorem lmA_B (l : Nat → Int32) (q : Nat) : lmA l q = lmB l (q + 1) := by
  induction q with
  | zero =>
    show l 0 = if l 0 = -1 then -1 else l 0
    by_cases h : l 0 = -1
    · rw [if_pos h, h]
    · rw [if_neg h]
  | succ n ih =>
    show (if l (n + 1) = -1 then lmA l n else l (n + 1)) = if l (n + 1) = -1 then lmB l (n + 1) else l (n + 1)
    rw [ih]
theorem lmA_congr {l k : Nat → Int32} {q : Nat} (h : ∀ z, z ≤ q → l z = k z) : lmA l q = lmA k q := by
  induction q with
  | zero => exact h 0 (Nat.le_refl _)
  | succ n ih =>
    show (if l (n + 1) = -1 then lmA l n else l (n + 1)) = if k (n + 1) = -1 then lmA k n else k (n + 1)
    rw [h (n + 1) (Nat.le_refl _), ih (fun z hz => h z (by omega))]
set_option maxHeartbeats 4000000 in
set_option maxRecDepth 100000 in
theorem c_X5_limit (l : Launch) (hl : l.stackTraces = false) (G : zG) (m : Nat) (ad : Nat → Nat) (ns : Nat → Nat) (na : Nat → Nat → Nat) (ia : Nat → Nat → Int32) (la : Nat → Nat → Int64) (h0 : zH) (s : ZS) (a q v : Int32) (h : zH) (hm : MR G h0 h m ad ns na ia la) (hs : MS s ns na ia la) (hw : WFs s)  : zMet eI l yX5_limit cX5_limit 7 (some .int) 14 0 0 G [.ref m, .int a, .int q, .int v] h (fun res h2 => ((kLimit s a q v) = 0 ∧ MO G h0 h2 m ad (nLimit s a q v) 0 ∧ res = nI (cnt (fun z => decide (¬ rL (nLimit s a q v) (cl a) z = -1)) 20)) ∨ ((kLimit s a q v) ≠ 0 ∧ MO G h0 h2 m ad s (kLimit s a q v))) := by
  refine con_of hl RX5 rfl (by decide +kernel) [(0, .ref m), (1, .int a), (2, .int q), (3, .int v)] rfl (Nat.le_of_ble_eq_true rfl) ?_
  intro zp ze zs zm zargs zbelow zmeth zc C hr hin Q hQ
  have e2 : (oS s).length = ns 2 := hs.2.1.1.symm
  have e7 : oN s = ns 7 := hs.2.2.1.1.symm
  have e17 : rN s = ns 17 := hs.2.2.2.1.1.symm
  have e25 : bN s = ns 25 := hs.2.2.2.2.1.symm
  have hw2 : ns 2 ≤ 8 := by rw [← e2]; exact hw.1
  have hw7 : ns 7 ≤ 10 := by rw [← e7]; exact hw.2.2.1.1
  have hw17 : ns 17 ≤ 6 := by rw [← e17]; exact hw.2.2.2.2.1.1
  have hw25 : ns 25 ≤ 6 := by rw [← e25]; exact hw.2.2.2.2.2.1
  refine v_aload_n C 0 rfl dX5_limit_0 rfl ?_
  refine v_iload_n C 1 rfl dX5_limit_1 rfl ?_
  refine v_callV (rest := []) C (c_X5_isTest l hl G m ad ns na ia la h0 a h hm (by omega)) K_X5_180 hm.1 rfl rfl (Nat.le_of_ble_eq_true rfl) ⟨Nat.le_of_ble_eq_true rfl, Nat.le_of_ble_eq_true rfl⟩ ⟨Nat.le_of_ble_eq_true rfl, Nat.le_of_ble_eq_true rfl⟩ dX5_limit_2 (fun i1 h1 q1 => ?_)
  obtain ⟨e1, rfl⟩ := q1
  by_cases c1 : inN a (ns 17)
  · rw [zb_t c1] at e1; subst e1
    obtain ⟨j2, hj2, en2⟩ := inN.nat c1 (by omega)
    subst en2
    have eCa : cl (nI j2) = j2 := cl_nI (by omega)
    refine v_if_eq (tgt := 19) C dX5_limit_5 (by decide) (fun c3 => absurd c3 (by decide)) (fun c3 => ?_)
    refine v_iload_n C 2 rfl dX5_limit_8 rfl ?_
    refine v_callS (rest := []) C (c_X5_isQuarter l hl G  q h ) S_X5_100 rfl rfl (Nat.le_of_ble_eq_true rfl) ⟨Nat.le_of_ble_eq_true rfl, Nat.le_of_ble_eq_true rfl⟩ ⟨Nat.le_of_ble_eq_true rfl, Nat.le_of_ble_eq_true rfl⟩ dX5_limit_9 (fun i4 h4 q4 => ?_)
    obtain ⟨e4, rfl⟩ := q4
    by_cases c4 : inN q 20
    · rw [zb_t c4] at e4; subst e4
      obtain ⟨j5, hj5, en5⟩ := inN.nat c4 (by omega)
      subst en5
      have eCq : cl (nI j5) = j5 := cl_nI (by omega)
      refine v_if_eq (tgt := 19) C dX5_limit_12 (by decide) (fun c6 => absurd c6 (by decide)) (fun c6 => ?_)
      refine v_iconst (v := 1) C dX5_limit_15 (by decide) ?_
      refine v_goto (tgt := 20) C dX5_limit_16 (by decide) ?_
      refine v_istore C [(4, .int 1), (0, .ref m), (1, .int (nI j2)), (2, .int (nI j5)), (3, .int v)] rfl (by decide) dX5_limit_20 ?_
      refine v_aload_n C 1 rfl dX5_limit_22 rfl ?_
      refine v_iload C 0 rfl dX5_limit_23 ?_
      refine v_if_ne (tgt := 32) C dX5_limit_25 (by decide) (fun c7 => ?_) (fun c7 => absurd c7 (by decide))
      refine v_iload_n C 4 rfl dX5_limit_32 rfl ?_
      refine v_iconst (v := 0) C dX5_limit_33 (by decide) ?_
      refine v_sipush (v := 10000) C dX5_limit_34 (by decide) ?_
      refine v_callS (rest := [.ref m]) C (c_X5_isIn l hl G  v 0 10000 h ) S_X5_89 rfl rfl (Nat.le_of_ble_eq_true rfl) ⟨Nat.le_of_ble_eq_true rfl, Nat.le_of_ble_eq_true rfl⟩ ⟨Nat.le_of_ble_eq_true rfl, Nat.le_of_ble_eq_true rfl⟩ dX5_limit_37 (fun i8 h8 q8 => ?_)
      obtain ⟨e8, rfl⟩ := q8
      by_cases c8 : wth v 0 10000
      · rw [zb_t c8] at e8; subst e8
        refine v_if_eq (tgt := 47) C dX5_limit_40 (by decide) (fun c9 => absurd c9 (by decide)) (fun c9 => ?_)
        refine v_iconst (v := 0) C dX5_limit_43 (by decide) ?_
        refine v_goto (tgt := 48) C dX5_limit_44 (by decide) ?_
        refine v_put C (mC ad (upN ns 0 0)) P_X5_85 hm.1 rfl rfl rfl (Nat.le_of_ble_eq_true rfl) dX5_limit_48 (v_nw (fun h10 eh10 => ?_))
        have hm10 := hm.putS 0 0 rfl eh10
        refine v_aload_n C 1 rfl dX5_limit_51 rfl ?_
        refine v_get (v := .int (nI 0)) C F_X5_85 hm10.1 rfl dX5_limit_52 ?_
        refine v_if_le (tgt := 60) C dX5_limit_55 (by decide) (fun c11 => ?_) (fun c11 => absurd c11 (by decide))
        refine v_aload_n C 1 rfl dX5_limit_60 rfl ?_
        refine v_get (v := .ref (ad 20)) C F_X5_57 hm10.1 rfl dX5_limit_61 ?_
        refine v_bipush (v := 20) C dX5_limit_64 (by decide) ?_
        refine v_iload_n C 2 rfl dX5_limit_66 rfl ?_
        refine v_imul C dX5_limit_67 (v_eqi (nI_kml j2 20 (by decide)) ?_)
        refine v_iload_n C 3 rfl dX5_limit_68 rfl ?_
        refine v_iadd C dX5_limit_69 (v_eqi (nI_add (20 * j2) j5) ?_)
        refine v_iload_n C 4 rfl dX5_limit_70 rfl ?_
        refine v_iast C (hm10.2.2.1 20 rfl) (vpin (show ((20 * j2) + j5) < 120 by omega) (by decide)) dX5_limit_71 (v_nw (fun h14 eh14 => ?_))
        have hm14 := hm10.putI2 (k := 20) rfl (g := (ia 20)) (i := ((20 * j2) + j5)) (v := v) (by omega) eh14
        refine v_iconst (v := 0) C dX5_limit_72 (by decide) ?_
        refine v_istore C [(5, .int 0), (4, .int 1), (0, .ref m), (1, .int (nI j2)), (2, .int (nI j5)), (3, .int v)] rfl (by decide) dX5_limit_73 ?_
        refine v_iconst (v := 0) C dX5_limit_75 (by decide) ?_
        refine v_istore C [(6, .int 0), (5, .int 0), (4, .int 1), (0, .ref m), (1, .int (nI j2)), (2, .int (nI j5)), (3, .int v)] rfl (by decide) dX5_limit_76 ?_
        have hms : MS (nLimit s (nI j2) (nI j5) v) (upN ns 0 0) na (up2 ia 20 (up2 (ia 20) ((20 * j2) + j5) v)) la := by unfold nLimit; rw [eCa, eCq]; exact hs.limit (by omega) rfl rfl rfl rfl
        have hdd : ∀ i, i < 20 → ((fun z => decide (¬ rL (nLimit s (nI j2) (nI j5) v) j2 z = -1)) i = true ↔ ¬ (up2 (ia 20) ((20 * j2) + j5) v) (20 * j2 + i) = -1) := fun i hi => by
            rw [decide_eq_true_iff]
            exact not_congr (by rw [show (up2 (ia 20) ((20 * j2) + j5) v) (20 * j2 + i) = rL (nLimit s (nI j2) (nI j5) v) j2 i from ((hms.2.2.2.1.2 j2 (by omega)).2.2.2.2 i hi).1])
        have L15 : ∀ (d : Nat) (i : Nat), (i ≤ 20) → (21 ≤ i + d) → V zp l ze (rmm 14 0 0) zs zm zargs zbelow zmeth zc G 7 Q h14 (0 + 0 + 0 + 0) (0 + 0 + 0 + 0) 78 [(5, .int (nI (cnt (fun z => decide (¬ rL (nLimit s (nI j2) (nI j5) v) j2 z = -1)) i))), (6, .int (nI i)), (0, .ref m), (1, .int (nI j2))] [] := by
          intro d
          induction d with
          | zero =>
            intro i hi hd
            exact absurd hd (by omega)
          | succ d ih15 =>
            intro i hi hd
            refine v_iload C 1 rfl dX5_limit_78 ?_
            refine v_bipush (v := 20) C dX5_limit_80 (by decide) ?_
            refine v_icmp_ge (tgt := 117) C dX5_limit_82 (by decide) (fun c16 => ?_) (fun c16 => ?_)
            · have c16 := (nk_ge (a := i) 20 (by decide) (by omega) (by decide)).mp c16
              refine v_iload C 0 rfl dX5_limit_117 ?_
              have ek : (kLimit s (nI j2) (nI j5) v) = 0 := by simp [kLimit, inN, wth, c1, c4, c8, c16, e17]
              exact v_iret C hQ hr rfl (Nat.le_of_ble_eq_true rfl) (Nat.le_of_ble_eq_true rfl) dX5_limit_119 (Or.inl ⟨ek, ⟨_, _, _, _, hm14, hms, rfl⟩, (by have hz : i = 20 := (by omega); rw [hz, eCa])⟩)
            · have c16 := (nk_ge_f (a := i) 20 (by decide) (by omega) (by decide)).mp c16
              refine v_iload C 0 rfl dX5_limit_85 ?_
              refine v_aload_n C 2 rfl dX5_limit_87 rfl ?_
              refine v_get (v := .ref (ad 20)) C F_X5_57 hm14.1 rfl dX5_limit_88 ?_
              refine v_bipush (v := 20) C dX5_limit_91 (by decide) ?_
              refine v_iload_n C 3 rfl dX5_limit_93 rfl ?_
              refine v_imul C dX5_limit_94 (v_eqi (nI_kml j2 20 (by decide)) ?_)
              refine v_iload C 1 rfl dX5_limit_95 ?_
              refine v_iadd C dX5_limit_97 (v_eqi (nI_add (20 * j2) i) ?_)
              refine v_iald C (hm14.2.2.1 20 rfl) (vpin (show ((20 * j2) + i) < 120 by omega) (by decide)) dX5_limit_98 (v_eqi (y := (up2 (ia 20) ((20 * j2) + j5) v) ((20 * j2) + i)) (congrArg (up2 (ia 20) ((20 * j2) + j5) v) (nI_clamp (show ((20 * j2) + i) < 2 ^ 31 by omega))) ?_)
              refine v_iconst (v := (-1)) C dX5_limit_99 (by decide) ?_
              refine v_icmp_ne (tgt := 107) C dX5_limit_100 (by decide) (fun c19 => ?_) (fun c19 => ?_)
              · refine v_iconst (v := 1) C dX5_limit_107 (by decide) ?_
                refine v_iadd C dX5_limit_108 (v_eqi (nI_adk (cnt (fun z => decide (¬ rL (nLimit s (nI j2) (nI j5) v) j2 z = -1)) i) 1 (by decide)) ?_)
                refine v_istore C [(5, .int (nI ((cnt (fun z => decide (¬ rL (nLimit s (nI j2) (nI j5) v) j2 z = -1)) i) + 1))), (6, .int (nI i)), (0, .ref m), (1, .int (nI j2))] rfl (by decide) dX5_limit_109 ?_
                refine v_iinc C 1 [(6, .int (nI (i + 1))), (5, .int (nI ((cnt (fun z => decide (¬ rL (nLimit s (nI j2) (nI j5) v) j2 z = -1)) i) + 1))), (0, .ref m), (1, .int (nI j2))] rfl (nI_inc i 1 (by decide)) rfl (by decide) dX5_limit_111 ?_
                refine v_goto (tgt := 78) C dX5_limit_114 (by decide) ?_
                refine v_lvp [1, 0, 2, 3] rfl ?_
                rw [cnt_up (p := (fun z => decide (¬ rL (nLimit s (nI j2) (nI j5) v) j2 z = -1))) ((hdd i (by omega)).mpr c19)]
                exact ih15 (i + 1) (by omega) (by omega)
              · refine v_iconst (v := 0) C dX5_limit_103 (by decide) ?_
                refine v_goto (tgt := 108) C dX5_limit_104 (by decide) ?_
                refine v_iadd C dX5_limit_108 (v_eqi (nI_adk (cnt (fun z => decide (¬ rL (nLimit s (nI j2) (nI j5) v) j2 z = -1)) i) 0 (by decide)) ?_)
                refine v_istore C [(5, .int (nI ((cnt (fun z => decide (¬ rL (nLimit s (nI j2) (nI j5) v) j2 z = -1)) i) + 0))), (6, .int (nI i)), (0, .ref m), (1, .int (nI j2))] rfl (by decide) dX5_limit_109 ?_
                refine v_iinc C 1 [(6, .int (nI (i + 1))), (5, .int (nI ((cnt (fun z => decide (¬ rL (nLimit s (nI j2) (nI j5) v) j2 z = -1)) i) + 0))), (0, .ref m), (1, .int (nI j2))] rfl (nI_inc i 1 (by decide)) rfl (by decide) dX5_limit_111 ?_
                refine v_goto (tgt := 78) C dX5_limit_114 (by decide) ?_
                refine v_lvp [1, 0, 2, 3] rfl ?_
                rw [cnt_st (p := (fun z => decide (¬ rL (nLimit s (nI j2) (nI j5) v) j2 z = -1))) (fun z => (hdd i (by omega)).mp z c19)]
                exact ih15 (i + 1) (by omega) (by omega)
        refine v_lvp [1, 0, 3, 4] rfl ?_
        exact L15 21 0 (by omega) (by omega)
      · rw [zb_f c8] at e8; subst e8
        refine v_if_eq (tgt := 47) C dX5_limit_40 (by decide) (fun c24 => ?_) (fun c24 => absurd c24 (by decide))
        refine v_iconst (v := 2) C dX5_limit_47 (by decide) ?_
        refine v_put C (mC ad (upN ns 0 2)) P_X5_85 hm.1 rfl rfl rfl (Nat.le_of_ble_eq_true rfl) dX5_limit_48 (v_nw (fun h25 eh25 => ?_))
        have hm25 := hm.putS 0 2 rfl eh25
        refine v_aload_n C 1 rfl dX5_limit_51 rfl ?_
        refine v_get (v := .int (nI 2)) C F_X5_85 hm25.1 rfl dX5_limit_52 ?_
        refine v_if_le (tgt := 60) C dX5_limit_55 (by decide) (fun c26 => absurd c26 (by decide)) (fun c26 => ?_)
        refine v_iconst (v := 0) C dX5_limit_58 (by decide) ?_
        have ek : (kLimit s (nI j2) (nI j5) v) = 2 := by simp [kLimit, inN, wth, c1, c4, c8, e17]
        exact v_iret C hQ hr rfl (Nat.le_of_ble_eq_true rfl) (Nat.le_of_ble_eq_true rfl) dX5_limit_59 (Or.inr ⟨(by rw [ek]; decide), (by rw [ek]; exact ⟨_, _, _, _, hm25, hs.thr _, rfl⟩)⟩)
    · rw [zb_f c4] at e4; subst e4
      refine v_if_eq (tgt := 19) C dX5_limit_12 (by decide) (fun c27 => ?_) (fun c27 => absurd c27 (by decide))
      refine v_iconst (v := 0) C dX5_limit_19 (by decide) ?_
      refine v_istore C [(4, .int 0), (0, .ref m), (1, .int (nI j2)), (2, .int q), (3, .int v)] rfl (by decide) dX5_limit_20 ?_
      refine v_aload_n C 1 rfl dX5_limit_22 rfl ?_
      refine v_iload C 0 rfl dX5_limit_23 ?_
      refine v_if_ne (tgt := 32) C dX5_limit_25 (by decide) (fun c28 => absurd c28 (by decide)) (fun c28 => ?_)
      refine v_iconst (v := 1) C dX5_limit_28 (by decide) ?_
      refine v_goto (tgt := 48) C dX5_limit_29 (by decide) ?_
      refine v_put C (mC ad (upN ns 0 1)) P_X5_85 hm.1 rfl rfl rfl (Nat.le_of_ble_eq_true rfl) dX5_limit_48 (v_nw (fun h29 eh29 => ?_))
      have hm29 := hm.putS 0 1 rfl eh29
      refine v_aload_n C 1 rfl dX5_limit_51 rfl ?_
      refine v_get (v := .int (nI 1)) C F_X5_85 hm29.1 rfl dX5_limit_52 ?_
      refine v_if_le (tgt := 60) C dX5_limit_55 (by decide) (fun c30 => absurd c30 (by decide)) (fun c30 => ?_)
      refine v_iconst (v := 0) C dX5_limit_58 (by decide) ?_
      have ek : (kLimit s (nI j2) q v) = 1 := by simp [kLimit, inN, wth, c1, c4, e17]
      exact v_iret C hQ hr rfl (Nat.le_of_ble_eq_true rfl) (Nat.le_of_ble_eq_true rfl) dX5_limit_59 (Or.inr ⟨(by rw [ek]; decide), (by rw [ek]; exact ⟨_, _, _, _, hm29, hs.thr _, rfl⟩)⟩)
  · rw [zb_f c1] at e1; subst e1
    refine v_if_eq (tgt := 19) C dX5_limit_5 (by decide) (fun c31 => ?_) (fun c31 => absurd c31 (by decide))
    refine v_iconst (v := 0) C dX5_limit_19 (by decide) ?_
    refine v_istore C [(4, .int 0), (0, .ref m), (1, .int a), (2, .int q), (3, .int v)] rfl (by decide) dX5_limit_20 ?_
    refine v_aload_n C 1 rfl dX5_limit_22 rfl ?_
    refine v_iload C 0 rfl dX5_limit_23 ?_
    refine v_if_ne (tgt := 32) C dX5_limit_25 (by decide) (fun c32 => absurd c32 (by decide)) (fun c32 => ?_)
    refine v_iconst (v := 1) C dX5_limit_28 (by decide) ?_
    refine v_goto (tgt := 48) C dX5_limit_29 (by decide) ?_
    refine v_put C (mC ad (upN ns 0 1)) P_X5_85 hm.1 rfl rfl rfl (Nat.le_of_ble_eq_true rfl) dX5_limit_48 (v_nw (fun h33 eh33 => ?_))
    have hm33 := hm.putS 0 1 rfl eh33
    refine v_aload_n C 1 rfl dX5_limit_51 rfl ?_
    refine v_get (v := .int (nI 1)) C F_X5_85 hm33.1 rfl dX5_limit_52 ?_
    refine v_if_le (tgt := 60) C dX5_limit_55 (by decide) (fun c34 => absurd c34 (by decide)) (fun c34 => ?_)
    refine v_iconst (v := 0) C dX5_limit_58 (by decide) ?_
    have ek : (kLimit s a q v) = 1 := by simp [kLimit, inN, wth, c1, e17]
    exact v_iret C hQ hr rfl (Nat.le_of_ble_eq_true rfl) (Nat.le_of_ble_eq_true rfl) dX5_limit_59 (Or.inr ⟨(by rw [ek]; decide), (by rw [ek]; exact ⟨_, _, _, _, hm33, hs.thr _, rfl⟩)⟩)
set_option maxHeartbeats 4000000 in
set_option maxRecDepth 100000 in
theorem c_X5_limitOf (l : Launch) (hl : l.stackTraces = false) (G : zG) (m : Nat) (ad : Nat → Nat) (ns : Nat → Nat) (na : Nat → Nat → Nat) (ia : Nat → Nat → Int32) (la : Nat → Nat → Int64) (h0 : zH) (j q : Nat) (l2 : Nat → Int32) (h : zH) (hm : MR G h0 h m ad ns na ia la) (hj : j < 6) (hq : q < 20) (hl2 : ∀ z, z < 20 → ia 20 (20 * j + z) = l2 z) : zMet eI l yX5_limitOf cX5_limitOf 5 (some .int) 12 0 0 G [.ref m, .int (nI j), .int (nI q)] h (fun r h2 => r = lmA l2 q ∧ h = h2) := by
  refine con_of hl RX5 rfl (by decide +kernel) [(0, .ref m), (1, .int (nI j)), (2, .int (nI q))] rfl (Nat.le_of_ble_eq_true rfl) ?_
  intro zp ze zs zm zargs zbelow zmeth zc C hr hin Q hQ
  refine v_iconst (v := (-1)) C dX5_limitOf_0 (by decide) ?_
  refine v_istore_n C [(3, .int (-1)), (0, .ref m), (1, .int (nI j)), (2, .int (nI q))] rfl (by decide) dX5_limitOf_1 rfl ?_
  refine v_iconst (v := 0) C dX5_limitOf_2 (by decide) ?_
  refine v_istore C [(4, .int 0), (3, .int (-1)), (0, .ref m), (1, .int (nI j)), (2, .int (nI q))] rfl (by decide) dX5_limitOf_3 ?_
  have L1 : ∀ (d : Nat) (i : Nat), (i ≤ q + 1) → (q + 2 ≤ i + d) → V zp l ze (rmm 12 0 0) zs zm zargs zbelow zmeth zc G 5 Q h (0) (0) 5 [(3, .int (lmB l2 i)), (4, .int (nI i)), (2, .int (nI q)), (1, .int (nI j)), (0, .ref m)] [] := by
    intro d
    induction d with
    | zero =>
      intro i hi hd
      exact absurd hd (by omega)
    | succ d ih1 =>
      intro i hi hd
      refine v_iload C 1 rfl dX5_limitOf_5 ?_
      refine v_iload_n C 2 rfl dX5_limitOf_7 rfl ?_
      refine v_icmp_gt (tgt := 50) C dX5_limitOf_8 (by decide) (fun c2 => ?_) (fun c2 => ?_)
      · have c2 := (nn_gt (a := i) (b := q) (by omega) (by omega)).mp c2
        refine v_iload_n C 0 rfl dX5_limitOf_50 rfl ?_
        exact v_iret C hQ hr rfl (Nat.le_of_ble_eq_true rfl) (Nat.le_of_ble_eq_true rfl) dX5_limitOf_51 ⟨(by have hz : i = q + 1 := (by omega); rw [hz, lmA_B]), rfl⟩
      · have c2 := (nn_gt_f (a := i) (b := q) (by omega) (by omega)).mp c2
        refine v_aload_n C 4 rfl dX5_limitOf_11 rfl ?_
        refine v_get (v := .ref (ad 20)) C F_X5_57 hm.1 rfl dX5_limitOf_12 ?_
        refine v_bipush (v := 20) C dX5_limitOf_15 (by decide) ?_
        refine v_iload_n C 3 rfl dX5_limitOf_17 rfl ?_
        refine v_imul C dX5_limitOf_18 (v_eqi (nI_kml j 20 (by decide)) ?_)
        refine v_iload C 1 rfl dX5_limitOf_19 ?_
        refine v_iadd C dX5_limitOf_21 (v_eqi (nI_add (20 * j) i) ?_)
        refine v_iald C (hm.2.2.1 20 rfl) (vpin (show ((20 * j) + i) < 120 by omega) (by decide)) dX5_limitOf_22 (v_eqi (y := (ia 20) ((20 * j) + i)) (congrArg (ia 20) (nI_clamp (show ((20 * j) + i) < 2 ^ 31 by omega))) ?_)
        refine v_iconst (v := (-1)) C dX5_limitOf_23 (by decide) ?_
        refine v_icmp_ne (tgt := 31) C dX5_limitOf_24 (by decide) (fun c5 => ?_) (fun c5 => ?_)
        · refine v_aload_n C 4 rfl dX5_limitOf_31 rfl ?_
          refine v_get (v := .ref (ad 20)) C F_X5_57 hm.1 rfl dX5_limitOf_32 ?_
          refine v_bipush (v := 20) C dX5_limitOf_35 (by decide) ?_
          refine v_iload_n C 3 rfl dX5_limitOf_37 rfl ?_
          refine v_imul C dX5_limitOf_38 (v_eqi (nI_kml j 20 (by decide)) ?_)
          refine v_iload C 1 rfl dX5_limitOf_39 ?_
          refine v_iadd C dX5_limitOf_41 (v_eqi (nI_add (20 * j) i) ?_)
          refine v_iald C (hm.2.2.1 20 rfl) (vpin (show ((20 * j) + i) < 120 by omega) (by decide)) dX5_limitOf_42 (v_eqi (y := (ia 20) ((20 * j) + i)) (congrArg (ia 20) (nI_clamp (show ((20 * j) + i) < 2 ^ 31 by omega))) ?_)
          refine v_istore_n C [(3, .int ((ia 20) ((20 * j) + i))), (4, .int (nI i)), (2, .int (nI q)), (1, .int (nI j)), (0, .ref m)] rfl (by decide) dX5_limitOf_43 rfl ?_
          refine v_iinc C 1 [(4, .int (nI (i + 1))), (3, .int ((ia 20) ((20 * j) + i))), (2, .int (nI q)), (1, .int (nI j)), (0, .ref m)] rfl (nI_inc i 1 (by decide)) rfl (by decide) dX5_limitOf_44 ?_
          refine v_goto (tgt := 5) C dX5_limitOf_47 (by decide) ?_
          refine v_lvp [1, 0, 2, 3, 4] rfl ?_
          rw [show ((ia 20) ((20 * j) + i)) = lmB l2 (i + 1) from (hl2 i (by omega)).trans (if_neg (fun z => c5 ((hl2 i (by omega)).trans z))).symm]
          exact ih1 (i + 1) (by omega) (by omega)
        · refine v_iload_n C 0 rfl dX5_limitOf_27 rfl ?_
          refine v_goto (tgt := 43) C dX5_limitOf_28 (by decide) ?_
          refine v_istore_n C [(3, .int (lmB l2 i)), (4, .int (nI i)), (2, .int (nI q)), (1, .int (nI j)), (0, .ref m)] rfl (by decide) dX5_limitOf_43 rfl ?_
          refine v_iinc C 1 [(4, .int (nI (i + 1))), (3, .int (lmB l2 i)), (2, .int (nI q)), (1, .int (nI j)), (0, .ref m)] rfl (nI_inc i 1 (by decide)) rfl (by decide) dX5_limitOf_44 ?_
          refine v_goto (tgt := 5) C dX5_limitOf_47 (by decide) ?_
          refine v_lvp [1, 0, 2, 3, 4] rfl ?_
          rw [show lmB l2 i = lmB l2 (i + 1) from (if_pos ((hl2 i (by omega)).symm.trans c5)).symm]
          exact ih1 (i + 1) (by omega) (by omega)
  refine v_lvp [1, 0, 4, 3, 2] rfl ?_
  exact L1 (q + 2) 0 (by omega) (by omega)
def qI (k : Nat) : Int32 := nI k - 3
theorem qI_toInt {k : Nat} (h : k < 2 ^ 30) : (qI k).toInt = (k : Int) - 3 := pk_sub_toInt (b := 3) h (by decide)
theorem qI_nat {k : Nat} (h : 3 ≤ k) : qI k = nI (k - 3) := pk_sub (b := 3) h
theorem qI_s {k : Nat} (h : k < 2 ^ 29) : qI k + Int32.ofInt 1 = qI (k + 1) := by
  have e : Int32.ofInt 1 = 1 := by decide
  rw [e, ← Int32.toInt_inj, Int32.toInt_add, qI_toInt (by omega), qI_toInt (by omega), show (1 : Int32).toInt = 1 from rfl]
  rw [Int.bmod_eq_of_le (by omega) (by omega)]; omega
theorem qI_4 {k : Nat} (h : k < 2 ^ 29) : qI k + 4 = qI (k + 4) := by
  rw [← Int32.toInt_inj, Int32.toInt_add, qI_toInt (by omega), qI_toInt (by omega), show (4 : Int32).toInt = 4 from rfl]
  rw [Int.bmod_eq_of_le (by omega) (by omega)]; omega
theorem qI_in {k : Nat} (h : k < 2 ^ 29) : inN (qI k) 20 ↔ 3 ≤ k ∧ k < 23 := by
  rw [inN_iff, i32_le, i32_lt, qI_toInt (by omega), nI_toInt (by decide), show (0 : Int32).toInt = 0 from rfl]; omega
theorem qI_gt {k q : Nat} (h : k < 2 ^ 29) (hq : q < 2 ^ 29) : nI q < qI k ↔ q + 3 < k := by
  rw [i32_lt, qI_toInt (by omega), nI_toInt (by omega)]; omega
theorem qI_ge {k q : Nat} (h : k < 2 ^ 29) (hq : q < 2 ^ 29) : qI q ≤ qI k ↔ q ≤ k := by
  rw [i32_le, qI_toInt (by omega), qI_toInt (by omega)]; omega
def cuM (c : Nat → Int32) (q : Nat) : Nat → Nat
  | 0 => 0
  | i + 1 => max (cuM c q i) (cuF c q i 4)
theorem cuF_le (c : Nat → Int32) (q i n : Nat) : cuF c q i n ≤ n := by
  induction n with
  | zero => exact Nat.le_refl _
  | succ n ih =>
    show cuF c q i n + (if _ then 1 else 0) ≤ n + 1
    split <;> omega
theorem cuM_le (c : Nat → Int32) (q i : Nat) : cuM c q i ≤ 4 := by
  induction i with
  | zero => exact Nat.zero_le _
  | succ i ih =>
    have := cuF_le c q i 4
    show max _ _ ≤ 4
    omega
theorem cuF_up {c : Nat → Int32} {q i n : Nat} (h : 3 ≤ q + i + n ∧ q + i + n < 23 ∧ ¬ c (q + i + n - 3) = 0) : cuF c q i n + 1 = cuF c q i (n + 1) := by
  show _ = cuF c q i n + _
  rw [if_pos h]
theorem cuF_st {c : Nat → Int32} {q i n : Nat} (h : ¬ (3 ≤ q + i + n ∧ q + i + n < 23 ∧ ¬ c (q + i + n - 3) = 0)) : cuF c q i n + 0 = cuF c q i (n + 1) := by
  show _ = cuF c q i n + _
  rw [if_neg h]
theorem cuM_4 {c : Nat → Int32} {q : Nat} : cuM c q 4 < 2 ↔ (cuF c q 0 4 < 2 ∧ cuF c q 1 4 < 2 ∧ cuF c q 2 4 < 2 ∧ cuF c q 3 4 < 2) := by
  show max (max (max (max 0 (cuF c q 0 4)) (cuF c q 1 4)) (cuF c q 2 4)) (cuF c q 3 4) < 2 ↔ _
  omega
theorem pos32 {x : Int32} (h : 0 ≤ x) : ¬ x ≤ 0 ↔ ¬ x = 0 := by
  rw [i32_le, show (0 : Int32).toInt = 0 from rfl] at *
  rw [← Int32.toInt_inj, show (0 : Int32).toInt = 0 from rfl]; omega
set_option maxHeartbeats 4000000 in
set_option maxRecDepth 100000 in
theorem c_X5_curesAround (l : Launch) (hl : l.stackTraces = false) (G : zG) (m : Nat) (ad : Nat → Nat) (ns : Nat → Nat) (na : Nat → Nat → Nat) (ia : Nat → Nat → Int32) (la : Nat → Nat → Int64) (h0 : zH) (j q : Nat) (c : Nat → Int32) (h : zH) (hm : MR G h0 h m ad ns na ia la) (hj : j < 6) (hq : q < 20) (hcc : ∀ z, z < 20 → ia 23 (20 * j + z) = c z) (hc0 : ∀ z, z < 20 → 0 ≤ c z) : zMet eI l yX5_curesAround cX5_curesAround 7 (some .int) 14 0 0 G [.ref m, .int (nI j), .int (nI q)] h (fun r h2 => r = nI (cuM c q 4) ∧ h = h2) := by
  refine con_of hl RX5 rfl (by decide +kernel) [(0, .ref m), (1, .int (nI j)), (2, .int (nI q))] rfl (Nat.le_of_ble_eq_true rfl) ?_
  intro zp ze zs zm zargs zbelow zmeth zc C hr hin Q hQ
  refine v_iconst (v := 0) C dX5_curesAround_0 (by decide) ?_
  refine v_istore_n C [(3, .int 0), (0, .ref m), (1, .int (nI j)), (2, .int (nI q))] rfl (by decide) dX5_curesAround_1 rfl ?_
  refine v_iload_n C 3 rfl dX5_curesAround_2 rfl ?_
  refine v_iconst (v := 3) C dX5_curesAround_3 (by decide) ?_
  refine v_isub C dX5_curesAround_4 (v_eqi (y := (qI (q + 0))) (rfl) ?_)
  refine v_istore C [(4, .int (qI (q + 0))), (3, .int 0), (0, .ref m), (1, .int (nI j)), (2, .int (nI q))] rfl (by decide) dX5_curesAround_5 ?_
  have L2 : ∀ (d : Nat) (i : Nat), (i ≤ 4) → (5 ≤ i + d) → V zp l ze (rmm 14 0 0) zs zm zargs zbelow zmeth zc G 7 Q h (0) (0) 7 [(3, .int (nI (cuM c q i))), (4, .int (qI (q + i))), (2, .int (nI q)), (1, .int (nI j)), (0, .ref m)] [] := by
    intro d
    induction d with
    | zero =>
      intro i hi hd
      exact absurd hd (by omega)
    | succ d ih2 =>
      intro i hi hd
      refine v_iload C 1 rfl dX5_curesAround_7 ?_
      refine v_iload_n C 2 rfl dX5_curesAround_9 rfl ?_
      refine v_icmp_gt (tgt := 99) C dX5_curesAround_10 (by decide) (fun c3 => ?_) (fun c3 => ?_)
      · have c3 := (qI_gt (k := q + i) (q := q) (by omega) (by omega)).mp c3
        refine v_iload_n C 0 rfl dX5_curesAround_99 rfl ?_
        exact v_iret C hQ hr rfl (Nat.le_of_ble_eq_true rfl) (Nat.le_of_ble_eq_true rfl) dX5_curesAround_100 ⟨(by have hz : i = 4 := (by omega); rw [hz]), rfl⟩
      · have c3 := (not_congr (qI_gt (k := q + i) (q := q) (by omega) (by omega))).mp c3
        refine v_iconst (v := 0) C dX5_curesAround_13 (by decide) ?_
        refine v_istore C [(5, .int 0), (3, .int (nI (cuM c q i))), (4, .int (qI (q + i))), (2, .int (nI q)), (1, .int (nI j)), (0, .ref m)] rfl (by decide) dX5_curesAround_14 ?_
        refine v_iload C 2 rfl dX5_curesAround_16 ?_
        refine v_istore C [(6, .int (qI (q + i))), (5, .int 0), (3, .int (nI (cuM c q i))), (4, .int (qI (q + i))), (2, .int (nI q)), (1, .int (nI j)), (0, .ref m)] rfl (by decide) dX5_curesAround_18 ?_
        have L4 : ∀ (d : Nat) (n : Nat), (n ≤ 4) → (5 ≤ n + d) → V zp l ze (rmm 14 0 0) zs zm zargs zbelow zmeth zc G 7 Q h (0) (0) 20 [(5, .int (nI (cuF c q i n))), (6, .int (qI (q + i + n))), (3, .int (nI (cuM c q i))), (4, .int (qI (q + i))), (2, .int (nI q)), (1, .int (nI j)), (0, .ref m)] [] := by
          intro d
          induction d with
          | zero =>
            intro n hn hd
            exact absurd hd (by omega)
          | succ d ih4 =>
            intro n hn hd
            refine v_iload C 1 rfl dX5_curesAround_20 ?_
            refine v_iload C 3 rfl dX5_curesAround_22 ?_
            refine v_iconst (v := 4) C dX5_curesAround_24 (by decide) ?_
            refine v_iadd C dX5_curesAround_25 (v_eqi (y := (qI (q + i + 4))) (qI_4 (by omega)) ?_)
            refine v_icmp_ge (tgt := 80) C dX5_curesAround_26 (by decide) (fun c6 => ?_) (fun c6 => ?_)
            · have c6 := (qI_ge (k := q + i + n) (q := q + i + 4) (by omega) (by omega)).mp c6
              refine v_iload C 0 rfl dX5_curesAround_80 ?_
              refine v_iload_n C 2 rfl dX5_curesAround_82 rfl ?_
              have hz1 := cuF_le c q i n
              have hz2 := cuM_le c q i
              refine v_icmp_le (tgt := 91) C dX5_curesAround_83 (by decide) (fun c7 => ?_) (fun c7 => ?_)
              · have c7 := (nn_le (a := (cuF c q i n)) (b := (cuM c q i)) (by omega) (by omega)).mp c7
                refine v_iload_n C 2 rfl dX5_curesAround_91 rfl ?_
                refine v_istore_n C [(3, .int (nI (cuM c q i))), (5, .int (nI (cuF c q i n))), (6, .int (qI (q + i + n))), (4, .int (qI (q + i))), (2, .int (nI q)), (1, .int (nI j)), (0, .ref m)] rfl (by decide) dX5_curesAround_92 rfl ?_
                refine v_iinc C 3 [(4, .int (qI (q + i + 1))), (3, .int (nI (cuM c q i))), (5, .int (nI (cuF c q i n))), (6, .int (qI (q + i + n))), (2, .int (nI q)), (1, .int (nI j)), (0, .ref m)] rfl (qI_s (by omega)) rfl (by decide) dX5_curesAround_93 ?_
                refine v_goto (tgt := 7) C dX5_curesAround_96 (by decide) ?_
                refine v_lvp [1, 0, 4, 5, 6] rfl ?_
                rw [show cuM c q i = cuM c q (i + 1) from (show _ = max _ _ by have hz : n = 4 := (by omega); subst hz; omega)]
                exact ih2 (i + 1) (by omega) (by omega)
              · have c7 := (nn_le_f (a := (cuF c q i n)) (b := (cuM c q i)) (by omega) (by omega)).mp c7
                refine v_iload C 0 rfl dX5_curesAround_86 ?_
                refine v_goto (tgt := 92) C dX5_curesAround_88 (by decide) ?_
                refine v_istore_n C [(3, .int (nI (cuF c q i n))), (5, .int (nI (cuF c q i n))), (6, .int (qI (q + i + n))), (4, .int (qI (q + i))), (2, .int (nI q)), (1, .int (nI j)), (0, .ref m)] rfl (by decide) dX5_curesAround_92 rfl ?_
                refine v_iinc C 3 [(4, .int (qI (q + i + 1))), (3, .int (nI (cuF c q i n))), (5, .int (nI (cuF c q i n))), (6, .int (qI (q + i + n))), (2, .int (nI q)), (1, .int (nI j)), (0, .ref m)] rfl (qI_s (by omega)) rfl (by decide) dX5_curesAround_93 ?_
                refine v_goto (tgt := 7) C dX5_curesAround_96 (by decide) ?_
                refine v_lvp [1, 0, 4, 5, 6] rfl ?_
                rw [show (nI (cuF c q i n)) = nI (cuM c q (i + 1)) from congrArg nI (show cuF c q i n = max _ _ by have hz : n = 4 := (by omega); subst hz; omega)]
                exact ih2 (i + 1) (by omega) (by omega)
            · have c6 := (not_congr (qI_ge (k := q + i + n) (q := q + i + 4) (by omega) (by omega))).mp c6
              refine v_iload C 0 rfl dX5_curesAround_29 ?_
              refine v_iload C 1 rfl dX5_curesAround_31 ?_
              refine v_callS (rest := [.int (nI (cuF c q i n))]) C (c_X5_isQuarter l hl G  (qI (q + i + n)) h ) S_X5_100 rfl rfl (Nat.le_of_ble_eq_true rfl) ⟨Nat.le_of_ble_eq_true rfl, Nat.le_of_ble_eq_true rfl⟩ ⟨Nat.le_of_ble_eq_true rfl, Nat.le_of_ble_eq_true rfl⟩ dX5_curesAround_33 (fun i10 h10 q10 => ?_)
              obtain ⟨e10, rfl⟩ := q10
              by_cases c10 : inN (qI (q + i + n)) 20
              · rw [zb_t c10] at e10; subst e10
                have cQ := c10
                have hq3 := (qI_in (by omega)).mp c10
                refine v_if_eq (tgt := 70) C dX5_curesAround_36 (by decide) (fun c11 => absurd c11 (by decide)) (fun c11 => ?_)
                refine v_aload_n C 6 rfl dX5_curesAround_39 rfl ?_
                refine v_get (v := .ref (ad 23)) C F_X5_66 hm.1 rfl dX5_curesAround_40 ?_
                refine v_bipush (v := 20) C dX5_curesAround_43 (by decide) ?_
                refine v_iload_n C 5 rfl dX5_curesAround_45 rfl ?_
                refine v_imul C dX5_curesAround_46 (v_eqi (nI_kml j 20 (by decide)) ?_)
                refine v_iload C 1 rfl dX5_curesAround_47 ?_
                refine v_callS (rest := [.int (nI (20 * j)), .ref (ad 23), .int (nI (cuF c q i n))]) C (c_X5_isQuarter l hl G  (qI (q + i + n)) h ) S_X5_100 rfl rfl (Nat.le_of_ble_eq_true rfl) ⟨Nat.le_of_ble_eq_true rfl, Nat.le_of_ble_eq_true rfl⟩ ⟨Nat.le_of_ble_eq_true rfl, Nat.le_of_ble_eq_true rfl⟩ dX5_curesAround_49 (fun i13 h13 q13 => ?_)
                obtain ⟨e13, rfl⟩ := q13
                have c13 : inN (qI (q + i + n)) 20 := cQ
                rw [zb_t c13] at e13; subst e13
                refine v_if_eq (tgt := 60) C dX5_curesAround_52 (by decide) (fun c14 => absurd c14 (by decide)) (fun c14 => ?_)
                refine v_iload C 1 rfl dX5_curesAround_55 ?_
                refine v_goto (tgt := 61) C dX5_curesAround_57 (by decide) ?_
                refine v_iadd C dX5_curesAround_61 (v_eqi (y := (nI (20 * j + (q + i + n - 3)))) ((by rw [qI_nat hq3.1]; exact nI_add _ _)) ?_)
                refine v_iald C (hm.2.2.1 23 rfl) (vpin (show (20 * j + (q + i + n - 3)) < 120 by omega) (by decide)) dX5_curesAround_62 (v_eqi (y := (ia 23) (20 * j + (q + i + n - 3))) (congrArg (ia 23) (nI_clamp (show (20 * j + (q + i + n - 3)) < 2 ^ 31 by omega))) ?_)
                refine v_if_le (tgt := 70) C dX5_curesAround_63 (by decide) (fun c16 => ?_) (fun c16 => ?_)
                · have cL := c16
                  refine v_iconst (v := 0) C dX5_curesAround_70 (by decide) ?_
                  refine v_iadd C dX5_curesAround_71 (v_eqi (nI_adk (cuF c q i n) 0 (by decide)) ?_)
                  refine v_istore C [(5, .int (nI ((cuF c q i n) + 0))), (6, .int (qI (q + i + n))), (3, .int (nI (cuM c q i))), (4, .int (qI (q + i))), (2, .int (nI q)), (1, .int (nI j)), (0, .ref m)] rfl (by decide) dX5_curesAround_72 ?_
                  refine v_iinc C 1 [(6, .int (qI (q + i + n + 1))), (5, .int (nI ((cuF c q i n) + 0))), (3, .int (nI (cuM c q i))), (4, .int (qI (q + i))), (2, .int (nI q)), (1, .int (nI j)), (0, .ref m)] rfl (qI_s (by omega)) rfl (by decide) dX5_curesAround_74 ?_
                  refine v_goto (tgt := 20) C dX5_curesAround_77 (by decide) ?_
                  refine v_lvp [1, 0, 2, 3, 4, 5, 6] rfl ?_
                  rw [cuF_st (fun z => (not_congr (pos32 (hc0 _ (by omega)))).mp (by rw [← hcc _ (by omega)]; exact fun y => y cL) z.2.2)]
                  exact ih4 (n + 1) (by omega) (by omega)
                · have cL := c16
                  refine v_iconst (v := 1) C dX5_curesAround_66 (by decide) ?_
                  refine v_goto (tgt := 71) C dX5_curesAround_67 (by decide) ?_
                  refine v_iadd C dX5_curesAround_71 (v_eqi (nI_adk (cuF c q i n) 1 (by decide)) ?_)
                  refine v_istore C [(5, .int (nI ((cuF c q i n) + 1))), (6, .int (qI (q + i + n))), (3, .int (nI (cuM c q i))), (4, .int (qI (q + i))), (2, .int (nI q)), (1, .int (nI j)), (0, .ref m)] rfl (by decide) dX5_curesAround_72 ?_
                  refine v_iinc C 1 [(6, .int (qI (q + i + n + 1))), (5, .int (nI ((cuF c q i n) + 1))), (3, .int (nI (cuM c q i))), (4, .int (qI (q + i))), (2, .int (nI q)), (1, .int (nI j)), (0, .ref m)] rfl (qI_s (by omega)) rfl (by decide) dX5_curesAround_74 ?_
                  refine v_goto (tgt := 20) C dX5_curesAround_77 (by decide) ?_
                  refine v_lvp [1, 0, 2, 3, 4, 5, 6] rfl ?_
                  rw [cuF_up ⟨hq3.1, hq3.2, (fun z => (pos32 (hc0 _ (by omega))).mp (by rw [← hcc _ (by omega)]; exact cL) z)⟩]
                  exact ih4 (n + 1) (by omega) (by omega)
              · rw [zb_f c10] at e10; subst e10
                have cQ := c10
                have hq3 := (not_congr (qI_in (by omega))).mp c10
                refine v_if_eq (tgt := 70) C dX5_curesAround_36 (by decide) (fun c21 => ?_) (fun c21 => absurd c21 (by decide))
                refine v_iconst (v := 0) C dX5_curesAround_70 (by decide) ?_
                refine v_iadd C dX5_curesAround_71 (v_eqi (nI_adk (cuF c q i n) 0 (by decide)) ?_)
                refine v_istore C [(5, .int (nI ((cuF c q i n) + 0))), (6, .int (qI (q + i + n))), (3, .int (nI (cuM c q i))), (4, .int (qI (q + i))), (2, .int (nI q)), (1, .int (nI j)), (0, .ref m)] rfl (by decide) dX5_curesAround_72 ?_
                refine v_iinc C 1 [(6, .int (qI (q + i + n + 1))), (5, .int (nI ((cuF c q i n) + 0))), (3, .int (nI (cuM c q i))), (4, .int (qI (q + i))), (2, .int (nI q)), (1, .int (nI j)), (0, .ref m)] rfl (qI_s (by omega)) rfl (by decide) dX5_curesAround_74 ?_
                refine v_goto (tgt := 20) C dX5_curesAround_77 (by decide) ?_
                refine v_lvp [1, 0, 2, 3, 4, 5, 6] rfl ?_
                rw [cuF_st (fun z => hq3 ⟨z.1, z.2.1⟩)]
                exact ih4 (n + 1) (by omega) (by omega)
        refine v_lvp [1, 0, 2, 3, 4, 5, 6] rfl ?_
        exact L4 5 0 (by omega) (by omega)
  refine v_lvp [1, 0, 4, 3, 2] rfl ?_
  exact L2 5 0 (by omega) (by omega)
theorem pos32b {x : Int32} (h : 0 ≤ x) : 0 < x ↔ ¬ x = 0 := by
  rw [i32_le, show (0 : Int32).toInt = 0 from rfl] at h
  rw [i32_lt, ← Int32.toInt_inj, show (0 : Int32).toInt = 0 from rfl]; omega
theorem wth_0 {x y : Int32} (h : wth x 0 y) : 0 ≤ x := (wth_iff.mp h).1
theorem wth_1 {x y : Int32} (h : wth x 1 y) : 0 ≤ x := by
  have := (wth_iff.mp h).1
  rw [i32_le, show (1 : Int32).toInt = 1 from rfl] at this
  rw [i32_le, show (0 : Int32).toInt = 0 from rfl]; omega
set_option maxHeartbeats 4000000 in
set_option maxRecDepth 100000 in
theorem c_X5_cure (l : Launch) (hl : l.stackTraces = false) (G : zG) (m : Nat) (ad : Nat → Nat) (ns : Nat → Nat) (na : Nat → Nat → Nat) (ia : Nat → Nat → Int32) (la : Nat → Nat → Int64) (h0 : zH) (s : ZS) (a q v : Int32) (h : zH) (hm : MR G h0 h m ad ns na ia la) (hs : MS s ns na ia la) (hw : WFs s)  : zMet eI l yX5_cure cX5_cure 6 (some .int) 15 0 0 G [.ref m, .int a, .int q, .int v] h (fun res h2 => ((kCure s a q v) = 0 ∧ MO G h0 h2 m ad (nCure s a q v) 0 ∧ res = nI (cnt (fun z => decide (¬ rC (nCure s a q v) (cl a) z = 0)) 20)) ∨ ((kCure s a q v) ≠ 0 ∧ MO G h0 h2 m ad s (kCure s a q v))) := by
  refine con_of hl RX5 rfl (by decide +kernel) [(0, .ref m), (1, .int a), (2, .int q), (3, .int v)] rfl (Nat.le_of_ble_eq_true rfl) ?_
  intro zp ze zs zm zargs zbelow zmeth zc C hr hin Q hQ
  have e2 : (oS s).length = ns 2 := hs.2.1.1.symm
  have e7 : oN s = ns 7 := hs.2.2.1.1.symm
  have e17 : rN s = ns 17 := hs.2.2.2.1.1.symm
  have e25 : bN s = ns 25 := hs.2.2.2.2.1.symm
  have hw2 : ns 2 ≤ 8 := by rw [← e2]; exact hw.1
  have hw7 : ns 7 ≤ 10 := by rw [← e7]; exact hw.2.2.1.1
  have hw17 : ns 17 ≤ 6 := by rw [← e17]; exact hw.2.2.2.2.1.1
  have hw25 : ns 25 ≤ 6 := by rw [← e25]; exact hw.2.2.2.2.2.1
  refine v_aload_n C 0 rfl dX5_cure_0 rfl ?_
  refine v_aload_n C 0 rfl dX5_cure_1 rfl ?_
  refine v_iload_n C 1 rfl dX5_cure_2 rfl ?_
  refine v_callV (rest := [.ref m]) C (c_X5_isTest l hl G m ad ns na ia la h0 a h hm (by omega)) K_X5_180 hm.1 rfl rfl (Nat.le_of_ble_eq_true rfl) ⟨Nat.le_of_ble_eq_true rfl, Nat.le_of_ble_eq_true rfl⟩ ⟨Nat.le_of_ble_eq_true rfl, Nat.le_of_ble_eq_true rfl⟩ dX5_cure_3 (fun i1 h1 q1 => ?_)
  obtain ⟨e1, rfl⟩ := q1
  by_cases c1 : inN a (ns 17)
  · rw [zb_t c1] at e1; subst e1
    obtain ⟨j2, hj2, en2⟩ := inN.nat c1 (by omega)
    subst en2
    have eCa : cl (nI j2) = j2 := cl_nI (by omega)
    refine v_if_eq (tgt := 16) C dX5_cure_6 (by decide) (fun c3 => absurd c3 (by decide)) (fun c3 => ?_)
    refine v_iload_n C 2 rfl dX5_cure_9 rfl ?_
    refine v_callS (rest := [.ref m]) C (c_X5_isQuarter l hl G  q h ) S_X5_100 rfl rfl (Nat.le_of_ble_eq_true rfl) ⟨Nat.le_of_ble_eq_true rfl, Nat.le_of_ble_eq_true rfl⟩ ⟨Nat.le_of_ble_eq_true rfl, Nat.le_of_ble_eq_true rfl⟩ dX5_cure_10 (fun i4 h4 q4 => ?_)
    obtain ⟨e4, rfl⟩ := q4
    by_cases c4 : inN q 20
    · rw [zb_t c4] at e4; subst e4
      obtain ⟨j5, hj5, en5⟩ := inN.nat c4 (by omega)
      subst en5
      have eCq : cl (nI j5) = j5 := cl_nI (by omega)
      have hcc : ∀ z, z < 20 → ia 23 (20 * j2 + z) = rC s j2 z := fun z hz => ((hs.2.2.2.1.2 j2 (by omega)).2.2.2.2 z hz).2.1
      have hc0 : ∀ z, z < 20 → 0 ≤ rC s j2 z := fun z hz => wth_0 ((hw.2.2.2.2.1.2.1 j2 (show j2 < rN s by rw [e17]; omega)).2.2.2 z hz).2
      refine v_if_ne (tgt := 20) C dX5_cure_13 (by decide) (fun c6 => ?_) (fun c6 => absurd c6 (by decide))
      refine v_iload_n C 3 rfl dX5_cure_20 rfl ?_
      refine v_iconst (v := 1) C dX5_cure_21 (by decide) ?_
      refine v_ldc C KO_X5_104 dX5_cure_22 ?_
      refine v_callS (rest := [.ref m]) C (c_X5_isIn l hl G  v 1 1000000 h ) S_X5_89 rfl rfl (Nat.le_of_ble_eq_true rfl) ⟨Nat.le_of_ble_eq_true rfl, Nat.le_of_ble_eq_true rfl⟩ ⟨Nat.le_of_ble_eq_true rfl, Nat.le_of_ble_eq_true rfl⟩ dX5_cure_24 (fun i7 h7 q7 => ?_)
      obtain ⟨e7, rfl⟩ := q7
      by_cases c7 : wth v 1 1000000
      · rw [zb_t c7] at e7; subst e7
        refine v_if_eq (tgt := 34) C dX5_cure_27 (by decide) (fun c8 => absurd c8 (by decide)) (fun c8 => ?_)
        refine v_iconst (v := 0) C dX5_cure_30 (by decide) ?_
        refine v_goto (tgt := 35) C dX5_cure_31 (by decide) ?_
        refine v_put C (mC ad (upN ns 0 0)) P_X5_85 hm.1 rfl rfl rfl (Nat.le_of_ble_eq_true rfl) dX5_cure_35 (v_nw (fun h9 eh9 => ?_))
        have hm9 := hm.putS 0 0 rfl eh9
        refine v_aload_n C 0 rfl dX5_cure_38 rfl ?_
        refine v_get (v := .int (nI 0)) C F_X5_85 hm9.1 rfl dX5_cure_39 ?_
        refine v_if_le (tgt := 47) C dX5_cure_42 (by decide) (fun c10 => ?_) (fun c10 => absurd c10 (by decide))
        refine v_aload_n C 0 rfl dX5_cure_47 rfl ?_
        refine v_aload_n C 0 rfl dX5_cure_48 rfl ?_
        refine v_get (v := .ref (ad 23)) C F_X5_66 hm9.1 rfl dX5_cure_49 ?_
        refine v_bipush (v := 20) C dX5_cure_52 (by decide) ?_
        refine v_iload_n C 1 rfl dX5_cure_54 rfl ?_
        refine v_imul C dX5_cure_55 (v_eqi (nI_kml j2 20 (by decide)) ?_)
        refine v_iload_n C 2 rfl dX5_cure_56 rfl ?_
        refine v_iadd C dX5_cure_57 (v_eqi (nI_add (20 * j2) j5) ?_)
        refine v_iald C (hm9.2.2.1 23 rfl) (vpin (show ((20 * j2) + j5) < 120 by omega) (by decide)) dX5_cure_58 (v_eqi (y := (ia 23) ((20 * j2) + j5)) (congrArg (ia 23) (nI_clamp (show ((20 * j2) + j5) < 2 ^ 31 by omega))) ?_)
        refine v_if_gt (tgt := 72) C dX5_cure_59 (by decide) (fun c13 => ?_) (fun c13 => ?_)
        · have cD : ¬ rC s (cl (nI j2)) (cl (nI j5)) = 0 ∨ ¬ (cuF (rC s (cl (nI j2))) (cl (nI j5)) 0 4 < 2 ∧ cuF (rC s (cl (nI j2))) (cl (nI j5)) 1 4 < 2 ∧ cuF (rC s (cl (nI j2))) (cl (nI j5)) 2 4 < 2 ∧ cuF (rC s (cl (nI j2))) (cl (nI j5)) 3 4 < 2) := Or.inl (by rw [eCa, eCq]; exact (pos32b (hc0 _ (by omega))).mp (by rw [← hcc _ (by omega)]; exact c13))
          refine v_iconst (v := 3) C dX5_cure_72 (by decide) ?_
          refine v_goto (tgt := 77) C dX5_cure_73 (by decide) ?_
          refine v_put C (mC ad (upN (upN ns 0 0) 0 3)) P_X5_85 hm9.1 rfl rfl rfl (Nat.le_of_ble_eq_true rfl) dX5_cure_77 (v_nw (fun h14 eh14 => ?_))
          have hm14 := hm9.putS 0 3 rfl eh14
          refine v_aload_n C 0 rfl dX5_cure_80 rfl ?_
          refine v_get (v := .int (nI 3)) C F_X5_85 hm14.1 rfl dX5_cure_81 ?_
          refine v_if_le (tgt := 89) C dX5_cure_84 (by decide) (fun c15 => absurd c15 (by decide)) (fun c15 => ?_)
          refine v_iconst (v := 0) C dX5_cure_87 (by decide) ?_
          have ek : (kCure s (nI j2) (nI j5) v) = 3 := (if_pos ⟨(by rw [e17]; exact c1), c4⟩).trans ((if_pos c7).trans (if_pos cD))
          exact v_iret C hQ hr rfl (Nat.le_of_ble_eq_true rfl) (Nat.le_of_ble_eq_true rfl) dX5_cure_88 (Or.inr ⟨(by rw [ek]; decide), (by rw [ek]; exact ⟨_, _, _, _, hm14, hs.thr _, rfl⟩)⟩)
        · have cZ : rC s j2 j5 = 0 := Decidable.not_not.mp (fun z => c13 (by rw [hcc _ (by omega)]; exact (pos32b (hc0 _ (by omega))).mpr z))
          refine v_aload_n C 0 rfl dX5_cure_62 rfl ?_
          refine v_iload_n C 1 rfl dX5_cure_63 rfl ?_
          refine v_iload_n C 2 rfl dX5_cure_64 rfl ?_
          refine v_callV (rest := [.ref m]) C (c_X5_curesAround l hl G m ad (upN ns 0 0) na ia la h0 j2 j5 (rC s j2) h9 hm9 (by omega) (by omega) hcc hc0) K_X5_183 hm9.1 rfl rfl (Nat.le_of_ble_eq_true rfl) ⟨Nat.le_of_ble_eq_true rfl, Nat.le_of_ble_eq_true rfl⟩ ⟨Nat.le_of_ble_eq_true rfl, Nat.le_of_ble_eq_true rfl⟩ dX5_cure_65 (fun i16 h16 q16 => ?_)
          obtain ⟨e16, rfl⟩ := q16; subst e16
          have hcm := cuM_le (rC s j2) j5 4
          refine v_iconst (v := 1) C dX5_cure_68 (by decide) ?_
          refine v_icmp_le (tgt := 76) C dX5_cure_69 (by decide) (fun c17 => ?_) (fun c17 => ?_)
          · have c17 := (nk_le (a := (cuM (rC s j2) j5 4)) 1 (by decide) (by omega) (by decide)).mp c17
            have cD : ¬ (¬ rC s (cl (nI j2)) (cl (nI j5)) = 0 ∨ ¬ (cuF (rC s (cl (nI j2))) (cl (nI j5)) 0 4 < 2 ∧ cuF (rC s (cl (nI j2))) (cl (nI j5)) 1 4 < 2 ∧ cuF (rC s (cl (nI j2))) (cl (nI j5)) 2 4 < 2 ∧ cuF (rC s (cl (nI j2))) (cl (nI j5)) 3 4 < 2)) := by
                rw [eCa, eCq, ← cuM_4]; intro z; rcases z with z | z
                · exact z cZ
                · omega
            refine v_iconst (v := 0) C dX5_cure_76 (by decide) ?_
            refine v_put C (mC ad (upN (upN ns 0 0) 0 0)) P_X5_85 hm9.1 rfl rfl rfl (Nat.le_of_ble_eq_true rfl) dX5_cure_77 (v_nw (fun h18 eh18 => ?_))
            have hm18 := hm9.putS 0 0 rfl eh18
            refine v_aload_n C 0 rfl dX5_cure_80 rfl ?_
            refine v_get (v := .int (nI 0)) C F_X5_85 hm18.1 rfl dX5_cure_81 ?_
            refine v_if_le (tgt := 89) C dX5_cure_84 (by decide) (fun c19 => ?_) (fun c19 => absurd c19 (by decide))
            refine v_aload_n C 0 rfl dX5_cure_89 rfl ?_
            refine v_get (v := .ref (ad 23)) C F_X5_66 hm18.1 rfl dX5_cure_90 ?_
            refine v_bipush (v := 20) C dX5_cure_93 (by decide) ?_
            refine v_iload_n C 1 rfl dX5_cure_95 rfl ?_
            refine v_imul C dX5_cure_96 (v_eqi (nI_kml j2 20 (by decide)) ?_)
            refine v_iload_n C 2 rfl dX5_cure_97 rfl ?_
            refine v_iadd C dX5_cure_98 (v_eqi (nI_add (20 * j2) j5) ?_)
            refine v_iload_n C 3 rfl dX5_cure_99 rfl ?_
            refine v_iast C (hm18.2.2.1 23 rfl) (vpin (show ((20 * j2) + j5) < 120 by omega) (by decide)) dX5_cure_100 (v_nw (fun h22 eh22 => ?_))
            have hm22 := hm18.putI2 (k := 23) rfl (g := (ia 23)) (i := ((20 * j2) + j5)) (v := v) (by omega) eh22
            refine v_iconst (v := 0) C dX5_cure_101 (by decide) ?_
            refine v_istore C [(4, .int 0), (0, .ref m), (1, .int (nI j2)), (2, .int (nI j5)), (3, .int v)] rfl (by decide) dX5_cure_102 ?_
            refine v_iconst (v := 0) C dX5_cure_104 (by decide) ?_
            refine v_istore C [(5, .int 0), (4, .int 0), (0, .ref m), (1, .int (nI j2)), (2, .int (nI j5)), (3, .int v)] rfl (by decide) dX5_cure_105 ?_
            have hms : MS (nCure s (nI j2) (nI j5) v) (upN (upN ns 0 0) 0 0) na (up2 ia 23 (up2 (ia 23) ((20 * j2) + j5) v)) la := by unfold nCure; rw [eCa, eCq]; exact hs.cure (by omega) rfl rfl rfl rfl
            have hdd : ∀ i, i < 20 → ((fun z => decide (¬ rC (nCure s (nI j2) (nI j5) v) j2 z = 0)) i = true ↔ ¬ (up2 (ia 23) ((20 * j2) + j5) v) (20 * j2 + i) ≤ 0) := fun i hi => by
                have e : (up2 (ia 23) ((20 * j2) + j5) v) (20 * j2 + i) = rC (nCure s (nI j2) (nI j5) v) j2 i := ((hms.2.2.2.1.2 j2 (by omega)).2.2.2.2 i hi).2.1
                rw [decide_eq_true_iff, e]
                refine (pos32 ?_).symm
                show 0 ≤ up3 (rC s) (cl (nI j2)) (cl (nI j5)) v j2 i
                rw [eCa, eCq]
                by_cases z : j2 = j2 ∧ i = j5
                · obtain ⟨-, rfl⟩ := z; rw [up3_s]; exact wth_1 c7
                · rw [up3_n z]; exact hc0 i hi
            have L23 : ∀ (d : Nat) (i : Nat), (i ≤ 20) → (21 ≤ i + d) → V zp l ze (rmm 15 0 0) zs zm zargs zbelow zmeth zc G 6 Q h22 (0 + 0 + 0 + 0 + 0) (0 + 0 + 0 + 0 + 0) 107 [(4, .int (nI (cnt (fun z => decide (¬ rC (nCure s (nI j2) (nI j5) v) j2 z = 0)) i))), (5, .int (nI i)), (0, .ref m), (1, .int (nI j2))] [] := by
              intro d
              induction d with
              | zero =>
                intro i hi hd
                exact absurd hd (by omega)
              | succ d ih23 =>
                intro i hi hd
                refine v_iload C 1 rfl dX5_cure_107 ?_
                refine v_bipush (v := 20) C dX5_cure_109 (by decide) ?_
                refine v_icmp_ge (tgt := 145) C dX5_cure_111 (by decide) (fun c24 => ?_) (fun c24 => ?_)
                · have c24 := (nk_ge (a := i) 20 (by decide) (by omega) (by decide)).mp c24
                  refine v_iload C 0 rfl dX5_cure_145 ?_
                  have ek : (kCure s (nI j2) (nI j5) v) = 0 := (if_pos ⟨(by rw [e17]; exact c1), c4⟩).trans ((if_pos c7).trans (if_neg cD))
                  exact v_iret C hQ hr rfl (Nat.le_of_ble_eq_true rfl) (Nat.le_of_ble_eq_true rfl) dX5_cure_147 (Or.inl ⟨ek, ⟨_, _, _, _, hm22, hms, rfl⟩, (by have hz : i = 20 := (by omega); rw [hz, eCa])⟩)
                · have c24 := (nk_ge_f (a := i) 20 (by decide) (by omega) (by decide)).mp c24
                  refine v_iload C 0 rfl dX5_cure_114 ?_
                  refine v_aload_n C 2 rfl dX5_cure_116 rfl ?_
                  refine v_get (v := .ref (ad 23)) C F_X5_66 hm22.1 rfl dX5_cure_117 ?_
                  refine v_bipush (v := 20) C dX5_cure_120 (by decide) ?_
                  refine v_iload_n C 3 rfl dX5_cure_122 rfl ?_
                  refine v_imul C dX5_cure_123 (v_eqi (nI_kml j2 20 (by decide)) ?_)
                  refine v_iload C 1 rfl dX5_cure_124 ?_
                  refine v_iadd C dX5_cure_126 (v_eqi (nI_add (20 * j2) i) ?_)
                  refine v_iald C (hm22.2.2.1 23 rfl) (vpin (show ((20 * j2) + i) < 120 by omega) (by decide)) dX5_cure_127 (v_eqi (y := (up2 (ia 23) ((20 * j2) + j5) v) ((20 * j2) + i)) (congrArg (up2 (ia 23) ((20 * j2) + j5) v) (nI_clamp (show ((20 * j2) + i) < 2 ^ 31 by omega))) ?_)
                  refine v_if_le (tgt := 135) C dX5_cure_128 (by decide) (fun c27 => ?_) (fun c27 => ?_)
                  · refine v_iconst (v := 0) C dX5_cure_135 (by decide) ?_
                    refine v_iadd C dX5_cure_136 (v_eqi (nI_adk (cnt (fun z => decide (¬ rC (nCure s (nI j2) (nI j5) v) j2 z = 0)) i) 0 (by decide)) ?_)
                    refine v_istore C [(4, .int (nI ((cnt (fun z => decide (¬ rC (nCure s (nI j2) (nI j5) v) j2 z = 0)) i) + 0))), (5, .int (nI i)), (0, .ref m), (1, .int (nI j2))] rfl (by decide) dX5_cure_137 ?_
                    refine v_iinc C 1 [(5, .int (nI (i + 1))), (4, .int (nI ((cnt (fun z => decide (¬ rC (nCure s (nI j2) (nI j5) v) j2 z = 0)) i) + 0))), (0, .ref m), (1, .int (nI j2))] rfl (nI_inc i 1 (by decide)) rfl (by decide) dX5_cure_139 ?_
                    refine v_goto (tgt := 107) C dX5_cure_142 (by decide) ?_
                    refine v_lvp [1, 0, 2, 3] rfl ?_
                    rw [cnt_st (p := (fun z => decide (¬ rC (nCure s (nI j2) (nI j5) v) j2 z = 0))) (fun z => (hdd i (by omega)).mp z c27)]
                    exact ih23 (i + 1) (by omega) (by omega)
                  · refine v_iconst (v := 1) C dX5_cure_131 (by decide) ?_
                    refine v_goto (tgt := 136) C dX5_cure_132 (by decide) ?_
                    refine v_iadd C dX5_cure_136 (v_eqi (nI_adk (cnt (fun z => decide (¬ rC (nCure s (nI j2) (nI j5) v) j2 z = 0)) i) 1 (by decide)) ?_)
                    refine v_istore C [(4, .int (nI ((cnt (fun z => decide (¬ rC (nCure s (nI j2) (nI j5) v) j2 z = 0)) i) + 1))), (5, .int (nI i)), (0, .ref m), (1, .int (nI j2))] rfl (by decide) dX5_cure_137 ?_
                    refine v_iinc C 1 [(5, .int (nI (i + 1))), (4, .int (nI ((cnt (fun z => decide (¬ rC (nCure s (nI j2) (nI j5) v) j2 z = 0)) i) + 1))), (0, .ref m), (1, .int (nI j2))] rfl (nI_inc i 1 (by decide)) rfl (by decide) dX5_cure_139 ?_
                    refine v_goto (tgt := 107) C dX5_cure_142 (by decide) ?_
                    refine v_lvp [1, 0, 2, 3] rfl ?_
                    rw [cnt_up (p := (fun z => decide (¬ rC (nCure s (nI j2) (nI j5) v) j2 z = 0))) ((hdd i (by omega)).mpr c27)]
                    exact ih23 (i + 1) (by omega) (by omega)
            refine v_lvp [1, 0, 2, 3] rfl ?_
            exact L23 21 0 (by omega) (by omega)
          · have c17 := (nk_le_f (a := (cuM (rC s j2) j5 4)) 1 (by decide) (by omega) (by decide)).mp c17
            have cD : (¬ rC s (cl (nI j2)) (cl (nI j5)) = 0 ∨ ¬ (cuF (rC s (cl (nI j2))) (cl (nI j5)) 0 4 < 2 ∧ cuF (rC s (cl (nI j2))) (cl (nI j5)) 1 4 < 2 ∧ cuF (rC s (cl (nI j2))) (cl (nI j5)) 2 4 < 2 ∧ cuF (rC s (cl (nI j2))) (cl (nI j5)) 3 4 < 2)) := by
                rw [eCa, eCq, ← cuM_4]; right; omega
            refine v_iconst (v := 3) C dX5_cure_72 (by decide) ?_
            refine v_goto (tgt := 77) C dX5_cure_73 (by decide) ?_
            refine v_put C (mC ad (upN (upN ns 0 0) 0 3)) P_X5_85 hm9.1 rfl rfl rfl (Nat.le_of_ble_eq_true rfl) dX5_cure_77 (v_nw (fun h32 eh32 => ?_))
            have hm32 := hm9.putS 0 3 rfl eh32
            refine v_aload_n C 0 rfl dX5_cure_80 rfl ?_
            refine v_get (v := .int (nI 3)) C F_X5_85 hm32.1 rfl dX5_cure_81 ?_
            refine v_if_le (tgt := 89) C dX5_cure_84 (by decide) (fun c33 => absurd c33 (by decide)) (fun c33 => ?_)
            refine v_iconst (v := 0) C dX5_cure_87 (by decide) ?_
            have ek : (kCure s (nI j2) (nI j5) v) = 3 := (if_pos ⟨(by rw [e17]; exact c1), c4⟩).trans ((if_pos c7).trans (if_pos cD))
            exact v_iret C hQ hr rfl (Nat.le_of_ble_eq_true rfl) (Nat.le_of_ble_eq_true rfl) dX5_cure_88 (Or.inr ⟨(by rw [ek]; decide), (by rw [ek]; exact ⟨_, _, _, _, hm32, hs.thr _, rfl⟩)⟩)
      · rw [zb_f c7] at e7; subst e7
        refine v_if_eq (tgt := 34) C dX5_cure_27 (by decide) (fun c34 => ?_) (fun c34 => absurd c34 (by decide))
        refine v_iconst (v := 2) C dX5_cure_34 (by decide) ?_
        refine v_put C (mC ad (upN ns 0 2)) P_X5_85 hm.1 rfl rfl rfl (Nat.le_of_ble_eq_true rfl) dX5_cure_35 (v_nw (fun h35 eh35 => ?_))
        have hm35 := hm.putS 0 2 rfl eh35
        refine v_aload_n C 0 rfl dX5_cure_38 rfl ?_
        refine v_get (v := .int (nI 2)) C F_X5_85 hm35.1 rfl dX5_cure_39 ?_
        refine v_if_le (tgt := 47) C dX5_cure_42 (by decide) (fun c36 => absurd c36 (by decide)) (fun c36 => ?_)
        refine v_iconst (v := 0) C dX5_cure_45 (by decide) ?_
        have ek : (kCure s (nI j2) (nI j5) v) = 2 := by simp [kCure, inN, wth, e17, c1, c4, c7]
        exact v_iret C hQ hr rfl (Nat.le_of_ble_eq_true rfl) (Nat.le_of_ble_eq_true rfl) dX5_cure_46 (Or.inr ⟨(by rw [ek]; decide), (by rw [ek]; exact ⟨_, _, _, _, hm35, hs.thr _, rfl⟩)⟩)
    · rw [zb_f c4] at e4; subst e4
      refine v_if_ne (tgt := 20) C dX5_cure_13 (by decide) (fun c37 => absurd c37 (by decide)) (fun c37 => ?_)
      refine v_iconst (v := 1) C dX5_cure_16 (by decide) ?_
      refine v_goto (tgt := 35) C dX5_cure_17 (by decide) ?_
      refine v_put C (mC ad (upN ns 0 1)) P_X5_85 hm.1 rfl rfl rfl (Nat.le_of_ble_eq_true rfl) dX5_cure_35 (v_nw (fun h38 eh38 => ?_))
      have hm38 := hm.putS 0 1 rfl eh38
      refine v_aload_n C 0 rfl dX5_cure_38 rfl ?_
      refine v_get (v := .int (nI 1)) C F_X5_85 hm38.1 rfl dX5_cure_39 ?_
      refine v_if_le (tgt := 47) C dX5_cure_42 (by decide) (fun c39 => absurd c39 (by decide)) (fun c39 => ?_)
      refine v_iconst (v := 0) C dX5_cure_45 (by decide) ?_
      have ek : (kCure s (nI j2) q v) = 1 := by simp [kCure, inN, wth, e17, c1, c4]
      exact v_iret C hQ hr rfl (Nat.le_of_ble_eq_true rfl) (Nat.le_of_ble_eq_true rfl) dX5_cure_46 (Or.inr ⟨(by rw [ek]; decide), (by rw [ek]; exact ⟨_, _, _, _, hm38, hs.thr _, rfl⟩)⟩)
  · rw [zb_f c1] at e1; subst e1
    refine v_if_eq (tgt := 16) C dX5_cure_6 (by decide) (fun c40 => ?_) (fun c40 => absurd c40 (by decide))
    refine v_iconst (v := 1) C dX5_cure_16 (by decide) ?_
    refine v_goto (tgt := 35) C dX5_cure_17 (by decide) ?_
    refine v_put C (mC ad (upN ns 0 1)) P_X5_85 hm.1 rfl rfl rfl (Nat.le_of_ble_eq_true rfl) dX5_cure_35 (v_nw (fun h41 eh41 => ?_))
    have hm41 := hm.putS 0 1 rfl eh41
    refine v_aload_n C 0 rfl dX5_cure_38 rfl ?_
    refine v_get (v := .int (nI 1)) C F_X5_85 hm41.1 rfl dX5_cure_39 ?_
    refine v_if_le (tgt := 47) C dX5_cure_42 (by decide) (fun c42 => absurd c42 (by decide)) (fun c42 => ?_)
    refine v_iconst (v := 0) C dX5_cure_45 (by decide) ?_
    have ek : (kCure s a q v) = 1 := by simp [kCure, inN, wth, e17, c1]
    exact v_iret C hQ hr rfl (Nat.le_of_ble_eq_true rfl) (Nat.le_of_ble_eq_true rfl) dX5_cure_46 (Or.inr ⟨(by rw [ek]; decide), (by rw [ek]; exact ⟨_, _, _, _, hm41, hs.thr _, rfl⟩)⟩)

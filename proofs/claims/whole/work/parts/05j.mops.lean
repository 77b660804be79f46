def lfV (ia : Nat → Nat → Int32) (la : Nat → Nat → Int64) (k n q : Nat) : Int64 := if k = 4 then (ia 1 (20 * n + q)).toInt64 else if k = 5 then lN64 n else la 12 (20 * n + q)
theorem jn_a {a b : Int64} (h : ¬ b ≤ a) : (if a < b then a else b) = a ∧ (if a < b then b else a) = b := ⟨if_pos (Int64.not_le.mp h), if_pos (Int64.not_le.mp h)⟩
theorem jn_b {a b : Int64} (h : b ≤ a) : (if a < b then a else b) = b ∧ (if a < b then b else a) = a := ⟨if_neg (Int64.not_lt.mpr h), if_neg (Int64.not_lt.mpr h)⟩
theorem i64_aba (a b : Int64) : a + b - a = b := by rw [Int64.add_comm, Int64.add_sub_cancel]
theorem i64_abb (a b : Int64) : a + b - b = a := Int64.add_sub_cancel a b
set_option maxHeartbeats 4000000 in
set_option maxRecDepth 100000 in
theorem c_X5_leaf (l : Launch) (hl : l.stackTraces = false) (G : zG) (m : Nat) (ad : Nat → Nat) (ns : Nat → Nat) (na : Nat → Nat → Nat) (ia : Nat → Nat → Int32) (la : Nat → Nat → Int64) (h0 : zH) (k n q : Nat) (h : zH) (hm : MR G h0 h m ad ns na ia la) (hq : q < 20) (hk : 4 ≤ k ∧ k ≤ 6) (h4 : k = 4 → n < 6) (h5 : n ≤ 1000000) (h6 : k = 6 → n < 10) : zMet eL l yX5_leaf cX5_leaf 4 (some .long) 12 0 0 G [.ref m, .int (nI k), .int (nI n), .int (nI q)] h (fun r h2 => r = lfV ia la k n q ∧ h = h2) := by
  refine con_of hl RX5 rfl (by decide +kernel) [(0, .ref m), (1, .int (nI k)), (2, .int (nI n)), (3, .int (nI q))] rfl (Nat.le_of_ble_eq_true rfl) ?_
  intro zp ze zs zm zargs zbelow zmeth zc C hr hin Q hQ
  refine v_iload_n C 1 rfl dX5_leaf_0 rfl ?_
  refine v_iconst (v := 4) C dX5_leaf_1 (by decide) ?_
  refine v_icmp_ne (tgt := 20) C dX5_leaf_2 (by decide) (fun c1 => ?_) (fun c1 => ?_)
  · have c1 := (nk_ne (a := k) 4 (by decide) (by omega) (by decide)).mp c1
    refine v_iload_n C 1 rfl dX5_leaf_20 rfl ?_
    refine v_iconst (v := 5) C dX5_leaf_21 (by decide) ?_
    refine v_icmp_ne (tgt := 30) C dX5_leaf_22 (by decide) (fun c2 => ?_) (fun c2 => ?_)
    · have c2 := (nk_ne (a := k) 5 (by decide) (by omega) (by decide)).mp c2
      have hb := h6 (by omega)
      refine v_aload_n C 0 rfl dX5_leaf_30 rfl ?_
      refine v_get (v := .ref (ad 12)) C F_X5_37 hm.1 rfl dX5_leaf_31 ?_
      refine v_bipush (v := 20) C dX5_leaf_34 (by decide) ?_
      refine v_iload_n C 2 rfl dX5_leaf_36 rfl ?_
      refine v_imul C dX5_leaf_37 (v_eqi (nI_kml n 20 (by decide)) ?_)
      refine v_iload_n C 3 rfl dX5_leaf_38 rfl ?_
      refine v_iadd C dX5_leaf_39 (v_eqi (nI_add (20 * n) q) ?_)
      refine v_lald C (hm.2.2.2.1 12 rfl) (vpin (show ((20 * n) + q) < 200 by omega) (by decide)) dX5_leaf_40 (v_eql (y := (la 12) ((20 * n) + q)) (congrArg (la 12) (nI_clamp (show ((20 * n) + q) < 2 ^ 31 by omega))) ?_)
      exact v_lret C hQ hr (Nat.le_of_ble_eq_true rfl) (Nat.le_of_ble_eq_true rfl) dX5_leaf_41 ⟨((if_neg c1).trans (if_neg c2)).symm, rfl⟩
    · have c2 := (nk_ne_f (a := k) 5 (by decide) (by omega) (by decide)).mp c2
      refine v_iload_n C 2 rfl dX5_leaf_25 rfl ?_
      refine v_i2l (v := lN64 n) C dX5_leaf_26 rfl ?_
      refine v_goto (tgt := 41) C dX5_leaf_27 (by decide) ?_
      exact v_lret C hQ hr (Nat.le_of_ble_eq_true rfl) (Nat.le_of_ble_eq_true rfl) dX5_leaf_41 ⟨((if_neg c1).trans (if_pos c2)).symm, rfl⟩
  · have c1 := (nk_ne_f (a := k) 4 (by decide) (by omega) (by decide)).mp c1
    have hb := h4 (by omega)
    refine v_aload_n C 0 rfl dX5_leaf_5 rfl ?_
    refine v_get (v := .ref (ad 1)) C F_X5_7 hm.1 rfl dX5_leaf_6 ?_
    refine v_bipush (v := 20) C dX5_leaf_9 (by decide) ?_
    refine v_iload_n C 2 rfl dX5_leaf_11 rfl ?_
    refine v_imul C dX5_leaf_12 (v_eqi (nI_kml n 20 (by decide)) ?_)
    refine v_iload_n C 3 rfl dX5_leaf_13 rfl ?_
    refine v_iadd C dX5_leaf_14 (v_eqi (nI_add (20 * n) q) ?_)
    refine v_iald C (hm.2.2.1 1 rfl) (vpin (show ((20 * n) + q) < 120 by omega) (by decide)) dX5_leaf_15 (v_eqi (y := (ia 1) ((20 * n) + q)) (congrArg (ia 1) (nI_clamp (show ((20 * n) + q) < 2 ^ 31 by omega))) ?_)
    refine v_i2l (v := (((ia 1) ((20 * n) + q)) : Int32).toInt64) C dX5_leaf_16 rfl ?_
    refine v_goto (tgt := 41) C dX5_leaf_17 (by decide) ?_
    exact v_lret C hQ hr (Nat.le_of_ble_eq_true rfl) (Nat.le_of_ble_eq_true rfl) dX5_leaf_41 ⟨(if_pos c1).symm, rfl⟩
set_option maxHeartbeats 4000000 in
set_option maxRecDepth 100000 in
theorem c_X5_joined (l : Launch) (hl : l.stackTraces = false) (G : zG) (k : Nat) (a b : Int64) (h : zH) (hk : k < 4) : zMet eL l yX5_joined cX5_joined 7 (some .long) 12 0 0 G [.int (nI k), .long a, .long b] h (fun r h2 => r = sjn k a b ∧ h = h2) := by
  refine con_of hl RX5 rfl (by decide +kernel) [(0, .int (nI k)), (1, .long a), (3, .long b)] rfl (Nat.le_of_ble_eq_true rfl) ?_
  intro zp ze zs zm zargs zbelow zmeth zc C hr hin Q hQ
  refine v_lload_n C 1 rfl dX5_joined_0 rfl ?_
  refine v_lload_n C 2 rfl dX5_joined_1 rfl ?_
  refine v_lcmp C dX5_joined_2 ?_
  refine v_if_ge (tgt := 10) C dX5_joined_3 (by decide) (fun c1 => ?_) (fun c1 => ?_)
  · have c1 := (lgc_ge a b).mp c1
    refine v_lload_n C 2 rfl dX5_joined_10 rfl ?_
    refine v_lstore C [(5, .long b), (0, .int (nI k)), (1, .long a), (3, .long b)] rfl (by decide) dX5_joined_11 ?_
    refine v_iload_n C 1 rfl dX5_joined_13 rfl ?_
    refine v_if_ne (tgt := 23) C dX5_joined_14 (by decide) (fun c2 => ?_) (fun c2 => ?_)
    · have c2 := (nk_ne (a := k) 0 (by decide) (by omega) (by decide)).mp c2
      refine v_iload_n C 1 rfl dX5_joined_23 rfl ?_
      refine v_iconst (v := 1) C dX5_joined_24 (by decide) ?_
      refine v_icmp_ne (tgt := 34) C dX5_joined_25 (by decide) (fun c3 => ?_) (fun c3 => ?_)
      · have c3 := (nk_ne (a := k) 1 (by decide) (by omega) (by decide)).mp c3
        refine v_iload_n C 1 rfl dX5_joined_34 rfl ?_
        refine v_iconst (v := 2) C dX5_joined_35 (by decide) ?_
        refine v_icmp_ne (tgt := 44) C dX5_joined_36 (by decide) (fun c4 => ?_) (fun c4 => ?_)
        · have c4 := (nk_ne (a := k) 2 (by decide) (by omega) (by decide)).mp c4
          refine v_lload_n C 2 rfl dX5_joined_44 rfl ?_
          refine v_lload_n C 3 rfl dX5_joined_45 rfl ?_
          refine v_ladd C dX5_joined_46 (v_eql (y := (a + b)) (rfl) ?_)
          refine v_lload C 0 rfl dX5_joined_47 ?_
          refine v_lsub C dX5_joined_49 (v_eql (y := ((a + b) - b)) (rfl) ?_)
          exact v_lret C hQ hr (Nat.le_of_ble_eq_true rfl) (Nat.le_of_ble_eq_true rfl) dX5_joined_50 ⟨((if_neg c2).trans ((if_neg c3).trans ((if_neg c4).trans ((jn_b c1).2.trans (i64_abb _ _).symm)))).symm, rfl⟩
        · have c4 := (nk_ne_f (a := k) 2 (by decide) (by omega) (by decide)).mp c4
          refine v_lload C 0 rfl dX5_joined_39 ?_
          refine v_goto (tgt := 50) C dX5_joined_41 (by decide) ?_
          exact v_lret C hQ hr (Nat.le_of_ble_eq_true rfl) (Nat.le_of_ble_eq_true rfl) dX5_joined_50 ⟨((if_neg c2).trans ((if_neg c3).trans ((if_pos c4).trans (jn_b c1).1))).symm, rfl⟩
      · have c3 := (nk_ne_f (a := k) 1 (by decide) (by omega) (by decide)).mp c3
        refine v_lload_n C 2 rfl dX5_joined_28 rfl ?_
        refine v_lload_n C 3 rfl dX5_joined_29 rfl ?_
        refine v_lsub C dX5_joined_30 (v_eql (y := (a - b)) (rfl) ?_)
        refine v_goto (tgt := 50) C dX5_joined_31 (by decide) ?_
        exact v_lret C hQ hr (Nat.le_of_ble_eq_true rfl) (Nat.le_of_ble_eq_true rfl) dX5_joined_50 ⟨((if_neg c2).trans (if_pos c3)).symm, rfl⟩
    · have c2 := (nk_ne_f (a := k) 0 (by decide) (by omega) (by decide)).mp c2
      refine v_lload_n C 2 rfl dX5_joined_17 rfl ?_
      refine v_lload_n C 3 rfl dX5_joined_18 rfl ?_
      refine v_ladd C dX5_joined_19 (v_eql (y := (a + b)) (rfl) ?_)
      refine v_goto (tgt := 50) C dX5_joined_20 (by decide) ?_
      exact v_lret C hQ hr (Nat.le_of_ble_eq_true rfl) (Nat.le_of_ble_eq_true rfl) dX5_joined_50 ⟨(if_pos c2).symm, rfl⟩
  · have c1 := (lgc_ge_f a b).mp c1
    refine v_lload_n C 1 rfl dX5_joined_6 rfl ?_
    refine v_goto (tgt := 11) C dX5_joined_7 (by decide) ?_
    refine v_lstore C [(5, .long a), (0, .int (nI k)), (1, .long a), (3, .long b)] rfl (by decide) dX5_joined_11 ?_
    refine v_iload_n C 1 rfl dX5_joined_13 rfl ?_
    refine v_if_ne (tgt := 23) C dX5_joined_14 (by decide) (fun c9 => ?_) (fun c9 => ?_)
    · have c9 := (nk_ne (a := k) 0 (by decide) (by omega) (by decide)).mp c9
      refine v_iload_n C 1 rfl dX5_joined_23 rfl ?_
      refine v_iconst (v := 1) C dX5_joined_24 (by decide) ?_
      refine v_icmp_ne (tgt := 34) C dX5_joined_25 (by decide) (fun c10 => ?_) (fun c10 => ?_)
      · have c10 := (nk_ne (a := k) 1 (by decide) (by omega) (by decide)).mp c10
        refine v_iload_n C 1 rfl dX5_joined_34 rfl ?_
        refine v_iconst (v := 2) C dX5_joined_35 (by decide) ?_
        refine v_icmp_ne (tgt := 44) C dX5_joined_36 (by decide) (fun c11 => ?_) (fun c11 => ?_)
        · have c11 := (nk_ne (a := k) 2 (by decide) (by omega) (by decide)).mp c11
          refine v_lload_n C 2 rfl dX5_joined_44 rfl ?_
          refine v_lload_n C 3 rfl dX5_joined_45 rfl ?_
          refine v_ladd C dX5_joined_46 (v_eql (y := (a + b)) (rfl) ?_)
          refine v_lload C 0 rfl dX5_joined_47 ?_
          refine v_lsub C dX5_joined_49 (v_eql (y := ((a + b) - a)) (rfl) ?_)
          exact v_lret C hQ hr (Nat.le_of_ble_eq_true rfl) (Nat.le_of_ble_eq_true rfl) dX5_joined_50 ⟨((if_neg c9).trans ((if_neg c10).trans ((if_neg c11).trans ((jn_a c1).2.trans (i64_aba _ _).symm)))).symm, rfl⟩
        · have c11 := (nk_ne_f (a := k) 2 (by decide) (by omega) (by decide)).mp c11
          refine v_lload C 0 rfl dX5_joined_39 ?_
          refine v_goto (tgt := 50) C dX5_joined_41 (by decide) ?_
          exact v_lret C hQ hr (Nat.le_of_ble_eq_true rfl) (Nat.le_of_ble_eq_true rfl) dX5_joined_50 ⟨((if_neg c9).trans ((if_neg c10).trans ((if_pos c11).trans (jn_a c1).1))).symm, rfl⟩
      · have c10 := (nk_ne_f (a := k) 1 (by decide) (by omega) (by decide)).mp c10
        refine v_lload_n C 2 rfl dX5_joined_28 rfl ?_
        refine v_lload_n C 3 rfl dX5_joined_29 rfl ?_
        refine v_lsub C dX5_joined_30 (v_eql (y := (a - b)) (rfl) ?_)
        refine v_goto (tgt := 50) C dX5_joined_31 (by decide) ?_
        exact v_lret C hQ hr (Nat.le_of_ble_eq_true rfl) (Nat.le_of_ble_eq_true rfl) dX5_joined_50 ⟨((if_neg c9).trans (if_pos c10)).symm, rfl⟩
    · have c9 := (nk_ne_f (a := k) 0 (by decide) (by omega) (by decide)).mp c9
      refine v_lload_n C 2 rfl dX5_joined_17 rfl ?_
      refine v_lload_n C 3 rfl dX5_joined_18 rfl ?_
      refine v_ladd C dX5_joined_19 (v_eql (y := (a + b)) (rfl) ?_)
      refine v_goto (tgt := 50) C dX5_joined_20 (by decide) ?_
      exact v_lret C hQ hr (Nat.le_of_ble_eq_true rfl) (Nat.le_of_ble_eq_true rfl) dX5_joined_50 ⟨(if_pos c9).symm, rfl⟩
/-- the place of the definition that holds -/
def hdP (f : Nat → Nat) (b : Nat) : Nat → Nat
  | 0 => b
  | q + 1 => if f (b + (q + 1)) = 0 then hdP f b q else b + (q + 1)
set_option maxHeartbeats 4000000 in
set_option maxRecDepth 100000 in
theorem c_X5_holding (l : Launch) (hl : l.stackTraces = false) (G : zG) (m : Nat) (ad : Nat → Nat) (ns : Nat → Nat) (na : Nat → Nat → Nat) (ia : Nat → Nat → Int32) (la : Nat → Nat → Int64) (h0 : zH) (t q : Nat) (h : zH) (hm : MR G h0 h m ad ns na ia la) (ht : t < 10) (hq : q < 20) (h0 : 0 < na 9 (20 * t)) (hb : ∀ j, j < 200 → na 9 j < 2 ^ 31) : zMet eI l yX5_holding cX5_holding 4 (some .int) 12 0 0 G [.ref m, .int (nI t), .int (nI q)] h (fun r h2 => r = nI (hdP (na 9) (20 * t) q) ∧ h = h2) := by
  refine con_of hl RX5 rfl (by decide +kernel) [(0, .ref m), (1, .int (nI t)), (2, .int (nI q))] rfl (Nat.le_of_ble_eq_true rfl) ?_
  intro zp ze zs zm zargs zbelow zmeth zc C hr hin Q hQ
  refine v_bipush (v := 20) C dX5_holding_0 (by decide) ?_
  refine v_iload_n C 1 rfl dX5_holding_2 rfl ?_
  refine v_imul C dX5_holding_3 (v_eqi (nI_kml t 20 (by decide)) ?_)
  refine v_iload_n C 2 rfl dX5_holding_4 rfl ?_
  refine v_iadd C dX5_holding_5 (v_eqi (nI_add (20 * t) q) ?_)
  refine v_istore_n C [(3, .int (nI ((20 * t) + q))), (0, .ref m), (1, .int (nI t)), (2, .int (nI q))] rfl (by decide) dX5_holding_6 rfl ?_
  have L3 : ∀ (d : Nat) (i : Nat), (i < 20) → (hdP (na 9) (20 * t) q = hdP (na 9) (20 * t) i) → (i + 1 ≤ d) → V zp l ze (rmm 12 0 0) zs zm zargs zbelow zmeth zc G 4 Q h (0) (0) 7 [(3, .int (nI (20 * t + i))), (0, .ref m)] [] := by
    intro d
    induction d with
    | zero =>
      intro i hi hh hd
      exact absurd hd (by omega)
    | succ d ih3 =>
      intro i hi hh hd
      refine v_aload_n C 1 rfl dX5_holding_7 rfl ?_
      refine v_get (v := .ref (ad 9)) C F_X5_28 hm.1 rfl dX5_holding_8 ?_
      refine v_iload_n C 0 rfl dX5_holding_11 rfl ?_
      refine v_iald C (hm.2.1 9 rfl) (vpin (show (20 * t + i) < 200 by omega) (by decide)) dX5_holding_12 (v_eqi (y := nI ((na 9) (20 * t + i))) (congrArg (fun j => nI ((na 9) j)) (nI_clamp (show (20 * t + i) < 2 ^ 31 by omega))) ?_)
      have hbi := hb (20 * t + i) (by omega)
      refine v_if_ne (tgt := 22) C dX5_holding_13 (by decide) (fun c4 => ?_) (fun c4 => ?_)
      · have c4 := (nk_ne (a := ((na 9) (20 * t + i))) 0 (by decide) (by omega) (by decide)).mp c4
        refine v_iload_n C 0 rfl dX5_holding_22 rfl ?_
        have hz : hdP (na 9) (20 * t) i = 20 * t + i := by
            cases i with
            | zero => rfl
            | succ i2 => exact if_neg c4
        exact v_iret C hQ hr rfl (Nat.le_of_ble_eq_true rfl) (Nat.le_of_ble_eq_true rfl) dX5_holding_23 ⟨by rw [hh, hz], rfl⟩
      · have c4 := (nk_ne_f (a := ((na 9) (20 * t + i))) 0 (by decide) (by omega) (by decide)).mp c4
        obtain ⟨i2, rfl⟩ : ∃ i2, i = i2 + 1 := by
            cases i with
            | zero => exact absurd (show na 9 (20 * t) = 0 from c4) (by omega)
            | succ i2 => exact ⟨i2, rfl⟩
        refine v_iinc C 0 [(3, .int (nI ((20 * t + (i2 + 1)) - 1))), (0, .ref m)] rfl (nI_dec (p := (20 * t + (i2 + 1))) (by omega)) rfl (by decide) dX5_holding_16 ?_
        refine v_goto (tgt := 7) C dX5_holding_19 (by decide) ?_
        refine v_lvp [0, 1] rfl ?_
        rw [show 20 * t + (i2 + 1) - 1 = 20 * t + i2 by omega]
        exact ih3 i2 (by omega) (hh.trans (if_pos c4)) (by omega)
  refine v_lvp [0, 1] rfl ?_
  exact L3 (q + 1) q hq rfl (by omega)

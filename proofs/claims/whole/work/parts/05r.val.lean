theorem up2_a0 {f : Nat → Int64} {j : Nat} : up2 f j (f j + 0) = f := by
  funext i
  by_cases q : i = j
  · subst q; rw [up2_s, Int64.add_zero]
  · rw [up2_n q]
theorem zfd_nn {y : Int64} (h : 0 ≤ y.toInt) : y / 100 = zfd y := (if_neg (fun z => by have := ((zfd_neg y).mp z).1; omega)).symm
theorem size_mul {x : Int64} {p : Int32} (hx : 0 < x) (hb : bnd x 4096000000) (hp : wth p 0 100) : x * p.toInt64 / 100 = zfd (x * p.toInt64) := by
  obtain ⟨n, hn, rfl⟩ := wth_nat (n := 100) hp (by decide) (by decide)
  have a := share_mul hn (by omega) (Int.le_refl _) hb
  apply zfd_nn
  show 0 ≤ (x * lN64 n).toInt
  rw [a.1]
  have x0 : 0 < x.toInt := by rw [i64_lt, show (0 : Int64).toInt = 0 from rfl] at hx; exact hx
  exact Int.mul_nonneg (by omega) (Int.natCast_nonneg _)
set_option maxHeartbeats 4000000 in
set_option maxRecDepth 100000 in
theorem c_X5_sizeOf (l : Launch) (hl : l.stackTraces = false) (G : zG) (m : Nat) (ad : Nat → Nat) (ns : Nat → Nat) (na : Nat → Nat → Nat) (ia : Nat → Nat → Int32) (la : Nat → Nat → Int64) (h0 : zH) (s : ZS) (b q : Nat) (h : zH) (hm : MR G h0 h m ad ns na ia la) (hs : MS s ns na ia la) (hw : WFs s) (hb : b < bN s) (hq : q < 20) : zMet eL l yX5_sizeOf cX5_sizeOf 5 (some .long) 15 0 0 G [.ref m, .int (nI b), .int (nI q)] h (fun r h2 => r = bSize s b q ∧ ∃ w u, MR G h0 h2 m ad ns na ia (up2 (up2 la 13 w) 12 u)) := by
  refine con_of hl RX5 rfl (by decide +kernel) [(0, .ref m), (1, .int (nI b)), (2, .int (nI q))] rfl (Nat.le_of_ble_eq_true rfl) ?_
  intro zp ze zs zm zargs zbelow zmeth zc C hr hin Q hQ
  have e25 : bN s = ns 25 := hs.2.2.2.2.1.symm
  have hb6 : bN s ≤ 6 := hw.2.2.2.2.2.1
  have hn10 : oN s ≤ 10 := hw.2.2.1.1
  obtain ⟨hx1, hx2, hx3, hx4⟩ := hs.2.2.2.2.2 b (by omega)
  obtain ⟨hy1, hy2, hy3⟩ := hw.2.2.2.2.2.2.1 b hb
  have hx1 : ia 26 b = bF s b := hx1
  have hx2 : na 27 b = bT s b := hx2
  have hx3 : ia 28 b = bP s b := hx3
  refine v_aload_n C 0 rfl dX5_sizeOf_0 rfl ?_
  refine v_callV (rest := []) C (c_X5_tells l hl G m ad ns na ia la h0 s h hm hs hw) K_X5_151 hm.1 rfl rfl (Nat.le_of_ble_eq_true rfl) ⟨Nat.le_of_ble_eq_true rfl, Nat.le_of_ble_eq_true rfl⟩ ⟨Nat.le_of_ble_eq_true rfl, Nat.le_of_ble_eq_true rfl⟩ dX5_sizeOf_1 (fun _ h1 q1 => ?_)
  obtain ⟨w, u, hm1, hut⟩ := q1
  refine v_aload_n C 0 rfl dX5_sizeOf_4 rfl ?_
  refine v_get (v := .ref (ad 12)) C F_X5_37 hm1.1 rfl dX5_sizeOf_5 ?_
  refine v_bipush (v := 20) C dX5_sizeOf_8 (by decide) ?_
  refine v_aload_n C 0 rfl dX5_sizeOf_10 rfl ?_
  refine v_get (v := .ref (ad 27)) C F_X5_76 hm1.1 rfl dX5_sizeOf_11 ?_
  refine v_iload_n C 1 rfl dX5_sizeOf_14 rfl ?_
  refine v_iald C (hm1.2.1 27 rfl) (vpin (show b < 6 by omega) (by decide)) dX5_sizeOf_15 (v_eqi (y := nI ((na 27) b)) (congrArg (fun j => nI ((na 27) j)) (nI_clamp (show b < 2 ^ 31 by omega))) ?_)
  refine v_imul C dX5_sizeOf_16 (v_eqi (nI_kml ((na 27) b) 20 (by decide)) ?_)
  refine v_iload_n C 2 rfl dX5_sizeOf_17 rfl ?_
  refine v_iadd C dX5_sizeOf_18 (v_eqi (nI_add (20 * ((na 27) b)) q) ?_)
  refine v_lald C (hm1.2.2.2.1 12 rfl) (vpin (show ((20 * ((na 27) b)) + q) < 200 by omega) (by decide)) dX5_sizeOf_19 (v_eql (y := u ((20 * ((na 27) b)) + q)) (congrArg u (nI_clamp (show ((20 * ((na 27) b)) + q) < 2 ^ 31 by omega))) ?_)
  refine v_lstore_n C [(3, .long (u ((20 * ((na 27) b)) + q))), (0, .ref m), (1, .int (nI b)), (2, .int (nI q))] rfl (by decide) dX5_sizeOf_20 rfl ?_
  refine v_aload_n C 1 rfl dX5_sizeOf_21 rfl ?_
  refine v_get (v := .ref (ad 26)) C F_X5_73 hm1.1 rfl dX5_sizeOf_22 ?_
  refine v_iload_n C 2 rfl dX5_sizeOf_25 rfl ?_
  refine v_iald C (hm1.2.2.1 26 rfl) (vpin (show b < 6 by omega) (by decide)) dX5_sizeOf_26 (v_eqi (y := (ia 26) b) (congrArg (ia 26) (nI_clamp (show b < 2 ^ 31 by omega))) ?_)
  refine v_i2l (v := (((ia 26) b) : Int32).toInt64) C dX5_sizeOf_27 rfl ?_
  refine v_lload_n C 0 rfl dX5_sizeOf_28 rfl ?_
  refine v_lconst (v := 0) C dX5_sizeOf_29 (by decide) ?_
  refine v_lcmp C dX5_sizeOf_30 ?_
  refine v_if_le (tgt := 50) C dX5_sizeOf_31 (by decide) (fun c4 => ?_) (fun c4 => ?_)
  · have c4 := (lgc_le (u ((20 * ((na 27) b)) + q)) 0).mp c4
    have hvb : u (20 * na 27 b + q) = oV s (bT s b) q := by rw [hx2]; exact hut _ _ hy1 hq
    rw [hvb] at c4
    refine v_lconst (v := 0) C dX5_sizeOf_50 (by decide) ?_
    refine v_ladd C dX5_sizeOf_51 (v_eql (y := ((Int32.toInt64 ((ia 26) b)) + 0)) (rfl) ?_)
    exact v_lret C hQ hr (Nat.le_of_ble_eq_true rfl) (Nat.le_of_ble_eq_true rfl) dX5_sizeOf_52 ⟨(by unfold bSize; rw [if_neg (Int64.not_lt.mpr c4), hx1, Int64.add_zero]), w, u, hm1⟩
  · have c4 := (lgc_le_f (u ((20 * ((na 27) b)) + q)) 0).mp c4
    have hvb : u (20 * na 27 b + q) = oV s (bT s b) q := by rw [hx2]; exact hut _ _ hy1 hq
    rw [hvb] at c4
    refine v_lload_n C 0 rfl dX5_sizeOf_34 rfl ?_
    refine v_aload_n C 1 rfl dX5_sizeOf_35 rfl ?_
    refine v_get (v := .ref (ad 28)) C F_X5_79 hm1.1 rfl dX5_sizeOf_36 ?_
    refine v_iload_n C 2 rfl dX5_sizeOf_39 rfl ?_
    refine v_iald C (hm1.2.2.1 28 rfl) (vpin (show b < 6 by omega) (by decide)) dX5_sizeOf_40 (v_eqi (y := (ia 28) b) (congrArg (ia 28) (nI_clamp (show b < 2 ^ 31 by omega))) ?_)
    refine v_i2l (v := (((ia 28) b) : Int32).toInt64) C dX5_sizeOf_41 rfl ?_
    refine v_lmul C dX5_sizeOf_42 (v_eql (y := ((u ((20 * ((na 27) b)) + q)) * (Int32.toInt64 ((ia 28) b)))) (rfl) ?_)
    refine v_ldc2 C KO_X5_186 dX5_sizeOf_43 ?_
    refine v_ldiv C dX5_sizeOf_46 (by decide) (v_eql (y := (((u ((20 * ((na 27) b)) + q)) * (Int32.toInt64 ((ia 28) b))) / 100)) (rfl) ?_)
    refine v_goto (tgt := 51) C dX5_sizeOf_47 (by decide) ?_
    refine v_ladd C dX5_sizeOf_51 (v_eql (y := ((Int32.toInt64 ((ia 26) b)) + (((u ((20 * ((na 27) b)) + q)) * (Int32.toInt64 ((ia 28) b))) / 100))) (rfl) ?_)
    exact v_lret C hQ hr (Nat.le_of_ble_eq_true rfl) (Nat.le_of_ble_eq_true rfl) dX5_sizeOf_52 ⟨(by unfold bSize; rw [if_pos (Int64.not_le.mp c4), hx1, hvb, hx3, size_mul (Int64.not_le.mp c4) (oV_bnd hw hy1 hq) hy3]), w, u, hm1⟩
set_option maxHeartbeats 4000000 in
set_option maxRecDepth 100000 in
theorem c_X5_size (l : Launch) (hl : l.stackTraces = false) (G : zG) (m : Nat) (ad : Nat → Nat) (ns : Nat → Nat) (na : Nat → Nat → Nat) (ia : Nat → Nat → Int32) (la : Nat → Nat → Int64) (h0 : zH) (s : ZS) (b q : Int32) (h : zH) (hm : MR G h0 h m ad ns na ia la) (hs : MS s ns na ia la) (hw : WFs s)  : zMet eL l yX5_size cX5_size 3 (some .long) 16 0 0 G [.ref m, .int b, .int q] h (fun res h2 => ((kIsBQ s b q) = 0 ∧ MO G h0 h2 m ad s 0 ∧ res = bSize s (cl b) (cl q)) ∨ ((kIsBQ s b q) ≠ 0 ∧ MO G h0 h2 m ad s (kIsBQ s b q))) := by
  refine con_of hl RX5 rfl (by decide +kernel) [(0, .ref m), (1, .int b), (2, .int q)] rfl (Nat.le_of_ble_eq_true rfl) ?_
  intro zp ze zs zm zargs zbelow zmeth zc C hr hin Q hQ
  have e2 : (oS s).length = ns 2 := hs.2.1.1.symm
  have e7 : oN s = ns 7 := hs.2.2.1.1.symm
  have e17 : rN s = ns 17 := hs.2.2.2.1.1.symm
  have e25 : bN s = ns 25 := hs.2.2.2.2.1.symm
  have hw2 : ns 2 ≤ 8 := by rw [← e2]; exact hw.1
  have hw7 : ns 7 ≤ 10 := by rw [← e7]; exact hw.2.2.1.1
  have hw17 : ns 17 ≤ 6 := by rw [← e17]; exact hw.2.2.2.2.1.1
  have hw25 : ns 25 ≤ 6 := by rw [← e25]; exact hw.2.2.2.2.2.1
  refine v_aload_n C 0 rfl dX5_size_0 rfl ?_
  refine v_aload_n C 0 rfl dX5_size_1 rfl ?_
  refine v_iload_n C 1 rfl dX5_size_2 rfl ?_
  refine v_callV (rest := [.ref m]) C (c_X5_isBasket l hl G m ad ns na ia la h0 b h hm (by omega)) K_X5_201 hm.1 rfl rfl (Nat.le_of_ble_eq_true rfl) ⟨Nat.le_of_ble_eq_true rfl, Nat.le_of_ble_eq_true rfl⟩ ⟨Nat.le_of_ble_eq_true rfl, Nat.le_of_ble_eq_true rfl⟩ dX5_size_3 (fun i1 h1 q1 => ?_)
  obtain ⟨e1, rfl⟩ := q1
  by_cases c1 : inN b (ns 25)
  · rw [zb_t c1] at e1; subst e1
    obtain ⟨j2, hj2, en2⟩ := inN.nat c1 (by omega)
    subst en2
    have eCb : cl (nI j2) = j2 := cl_nI (by omega)
    refine v_if_eq (tgt := 20) C dX5_size_6 (by decide) (fun c3 => absurd c3 (by decide)) (fun c3 => ?_)
    refine v_iload_n C 2 rfl dX5_size_9 rfl ?_
    refine v_callS (rest := [.ref m]) C (c_X5_isQuarter l hl G  q h ) S_X5_100 rfl rfl (Nat.le_of_ble_eq_true rfl) ⟨Nat.le_of_ble_eq_true rfl, Nat.le_of_ble_eq_true rfl⟩ ⟨Nat.le_of_ble_eq_true rfl, Nat.le_of_ble_eq_true rfl⟩ dX5_size_10 (fun i4 h4 q4 => ?_)
    obtain ⟨e4, rfl⟩ := q4
    by_cases c4 : inN q 20
    · rw [zb_t c4] at e4; subst e4
      obtain ⟨j5, hj5, en5⟩ := inN.nat c4 (by omega)
      subst en5
      have eCq : cl (nI j5) = j5 := cl_nI (by omega)
      refine v_if_eq (tgt := 20) C dX5_size_13 (by decide) (fun c6 => absurd c6 (by decide)) (fun c6 => ?_)
      refine v_iconst (v := 0) C dX5_size_16 (by decide) ?_
      refine v_goto (tgt := 21) C dX5_size_17 (by decide) ?_
      refine v_put C (mC ad (upN ns 0 0)) P_X5_85 hm.1 rfl rfl rfl (Nat.le_of_ble_eq_true rfl) dX5_size_21 (v_nw (fun h7 eh7 => ?_))
      have hm7 := hm.putS 0 0 rfl eh7
      refine v_aload_n C 0 rfl dX5_size_24 rfl ?_
      refine v_get (v := .int (nI 0)) C F_X5_85 hm7.1 rfl dX5_size_25 ?_
      refine v_if_le (tgt := 35) C dX5_size_28 (by decide) (fun c8 => ?_) (fun c8 => absurd c8 (by decide))
      refine v_aload_n C 0 rfl dX5_size_35 rfl ?_
      refine v_iload_n C 1 rfl dX5_size_36 rfl ?_
      refine v_iload_n C 2 rfl dX5_size_37 rfl ?_
      refine v_callV (rest := []) C (c_X5_sizeOf l hl G m ad (upN ns 0 0) na ia la h0 s j2 j5 h7 hm7 (hs.thr _) hw (show j2 < bN s by rw [e25]; omega) (by omega)) K_X5_204 hm7.1 rfl rfl (Nat.le_of_ble_eq_true rfl) ⟨Nat.le_of_ble_eq_true rfl, Nat.le_of_ble_eq_true rfl⟩ ⟨Nat.le_of_ble_eq_true rfl, Nat.le_of_ble_eq_true rfl⟩ dX5_size_38 (fun l9 h9 q9 => ?_)
      obtain ⟨e9, w, u, hm9⟩ := q9; subst e9
      have ek : (kIsBQ s (nI j2) (nI j5)) = 0 := by simp [kIsBQ, inN, wth, c1, c4, e25]
      exact v_lret C hQ hr (Nat.le_of_ble_eq_true rfl) (Nat.le_of_ble_eq_true rfl) dX5_size_41 (Or.inl ⟨ek, ⟨_, _, _, _, hm9, (hs.free rfl rfl rfl rfl (fun _ _ _ => rfl) rfl), rfl⟩, (by rw [eCb, eCq])⟩)
    · rw [zb_f c4] at e4; subst e4
      refine v_if_eq (tgt := 20) C dX5_size_13 (by decide) (fun c10 => ?_) (fun c10 => absurd c10 (by decide))
      refine v_iconst (v := 1) C dX5_size_20 (by decide) ?_
      refine v_put C (mC ad (upN ns 0 1)) P_X5_85 hm.1 rfl rfl rfl (Nat.le_of_ble_eq_true rfl) dX5_size_21 (v_nw (fun h11 eh11 => ?_))
      have hm11 := hm.putS 0 1 rfl eh11
      refine v_aload_n C 0 rfl dX5_size_24 rfl ?_
      refine v_get (v := .int (nI 1)) C F_X5_85 hm11.1 rfl dX5_size_25 ?_
      refine v_if_le (tgt := 35) C dX5_size_28 (by decide) (fun c12 => absurd c12 (by decide)) (fun c12 => ?_)
      refine v_lconst (v := 0) C dX5_size_31 (by decide) ?_
      refine v_goto (tgt := 41) C dX5_size_32 (by decide) ?_
      have ek : (kIsBQ s (nI j2) q) = 1 := by simp [kIsBQ, inN, wth, c1, c4, e25]
      exact v_lret C hQ hr (Nat.le_of_ble_eq_true rfl) (Nat.le_of_ble_eq_true rfl) dX5_size_41 (Or.inr ⟨(by rw [ek]; decide), (by rw [ek]; exact ⟨_, _, _, _, hm11, hs.thr _, rfl⟩)⟩)
  · rw [zb_f c1] at e1; subst e1
    refine v_if_eq (tgt := 20) C dX5_size_6 (by decide) (fun c13 => ?_) (fun c13 => absurd c13 (by decide))
    refine v_iconst (v := 1) C dX5_size_20 (by decide) ?_
    refine v_put C (mC ad (upN ns 0 1)) P_X5_85 hm.1 rfl rfl rfl (Nat.le_of_ble_eq_true rfl) dX5_size_21 (v_nw (fun h14 eh14 => ?_))
    have hm14 := hm.putS 0 1 rfl eh14
    refine v_aload_n C 0 rfl dX5_size_24 rfl ?_
    refine v_get (v := .int (nI 1)) C F_X5_85 hm14.1 rfl dX5_size_25 ?_
    refine v_if_le (tgt := 35) C dX5_size_28 (by decide) (fun c15 => absurd c15 (by decide)) (fun c15 => ?_)
    refine v_lconst (v := 0) C dX5_size_31 (by decide) ?_
    refine v_goto (tgt := 41) C dX5_size_32 (by decide) ?_
    have ek : (kIsBQ s b q) = 1 := by simp [kIsBQ, inN, wth, c1, e25]
    exact v_lret C hQ hr (Nat.le_of_ble_eq_true rfl) (Nat.le_of_ble_eq_true rfl) dX5_size_41 (Or.inr ⟨(by rw [ek]; decide), (by rw [ek]; exact ⟨_, _, _, _, hm14, hs.thr _, rfl⟩)⟩)
set_option maxHeartbeats 4000000 in
set_option maxRecDepth 100000 in
theorem c_X5_use (l : Launch) (hl : l.stackTraces = false) (G : zG) (m : Nat) (ad : Nat → Nat) (ns : Nat → Nat) (na : Nat → Nat → Nat) (ia : Nat → Nat → Int32) (la : Nat → Nat → Int64) (h0 : zH) (s : ZS) (b q v : Int32) (h : zH) (hm : MR G h0 h m ad ns na ia la) (hs : MS s ns na ia la) (hw : WFs s)  : zMet eL l yX5_use cX5_use 4 (some .long) 16 0 0 G [.ref m, .int b, .int q, .int v] h (fun res h2 => ((kUse s b q v) = 0 ∧ MO G h0 h2 m ad (nUse s b (bU s (cl b) + v.toInt64)) 0 ∧ res = bU s (cl b) + v.toInt64) ∨ ((kUse s b q v) ≠ 0 ∧ MO G h0 h2 m ad s (kUse s b q v))) := by
  refine con_of hl RX5 rfl (by decide +kernel) [(0, .ref m), (1, .int b), (2, .int q), (3, .int v)] rfl (Nat.le_of_ble_eq_true rfl) ?_
  intro zp ze zs zm zargs zbelow zmeth zc C hr hin Q hQ
  have e2 : (oS s).length = ns 2 := hs.2.1.1.symm
  have e7 : oN s = ns 7 := hs.2.2.1.1.symm
  have e17 : rN s = ns 17 := hs.2.2.2.1.1.symm
  have e25 : bN s = ns 25 := hs.2.2.2.2.1.symm
  have hw2 : ns 2 ≤ 8 := by rw [← e2]; exact hw.1
  have hw7 : ns 7 ≤ 10 := by rw [← e7]; exact hw.2.2.1.1
  have hw17 : ns 17 ≤ 6 := by rw [← e17]; exact hw.2.2.2.2.1.1
  have hw25 : ns 25 ≤ 6 := by rw [← e25]; exact hw.2.2.2.2.2.1
  refine v_aload_n C 0 rfl dX5_use_0 rfl ?_
  refine v_aload_n C 0 rfl dX5_use_1 rfl ?_
  refine v_iload_n C 1 rfl dX5_use_2 rfl ?_
  refine v_callV (rest := [.ref m]) C (c_X5_isBasket l hl G m ad ns na ia la h0 b h hm (by omega)) K_X5_201 hm.1 rfl rfl (Nat.le_of_ble_eq_true rfl) ⟨Nat.le_of_ble_eq_true rfl, Nat.le_of_ble_eq_true rfl⟩ ⟨Nat.le_of_ble_eq_true rfl, Nat.le_of_ble_eq_true rfl⟩ dX5_use_3 (fun i1 h1 q1 => ?_)
  obtain ⟨e1, rfl⟩ := q1
  by_cases c1 : inN b (ns 25)
  · rw [zb_t c1] at e1; subst e1
    obtain ⟨j2, hj2, en2⟩ := inN.nat c1 (by omega)
    subst en2
    have eCb : cl (nI j2) = j2 := cl_nI (by omega)
    have hU : bU s j2 = la 29 j2 := (hs.2.2.2.2.2 j2 (by omega)).2.2.2.symm
    refine v_if_eq (tgt := 16) C dX5_use_6 (by decide) (fun c3 => absurd c3 (by decide)) (fun c3 => ?_)
    refine v_iload_n C 2 rfl dX5_use_9 rfl ?_
    refine v_callS (rest := [.ref m]) C (c_X5_isQuarter l hl G  q h ) S_X5_100 rfl rfl (Nat.le_of_ble_eq_true rfl) ⟨Nat.le_of_ble_eq_true rfl, Nat.le_of_ble_eq_true rfl⟩ ⟨Nat.le_of_ble_eq_true rfl, Nat.le_of_ble_eq_true rfl⟩ dX5_use_10 (fun i4 h4 q4 => ?_)
    obtain ⟨e4, rfl⟩ := q4
    by_cases c4 : inN q 20
    · rw [zb_t c4] at e4; subst e4
      obtain ⟨j5, hj5, en5⟩ := inN.nat c4 (by omega)
      subst en5
      have eCq : cl (nI j5) = j5 := cl_nI (by omega)
      refine v_if_ne (tgt := 20) C dX5_use_13 (by decide) (fun c6 => ?_) (fun c6 => absurd c6 (by decide))
      refine v_iload_n C 3 rfl dX5_use_20 rfl ?_
      refine v_iconst (v := 1) C dX5_use_21 (by decide) ?_
      refine v_ldc C KO_X5_104 dX5_use_22 ?_
      refine v_callS (rest := [.ref m]) C (c_X5_isIn l hl G  v 1 1000000 h ) S_X5_89 rfl rfl (Nat.le_of_ble_eq_true rfl) ⟨Nat.le_of_ble_eq_true rfl, Nat.le_of_ble_eq_true rfl⟩ ⟨Nat.le_of_ble_eq_true rfl, Nat.le_of_ble_eq_true rfl⟩ dX5_use_24 (fun i7 h7 q7 => ?_)
      obtain ⟨e7, rfl⟩ := q7
      by_cases c7 : wth v 1 1000000
      · rw [zb_t c7] at e7; subst e7
        refine v_if_eq (tgt := 34) C dX5_use_27 (by decide) (fun c8 => absurd c8 (by decide)) (fun c8 => ?_)
        refine v_iconst (v := 0) C dX5_use_30 (by decide) ?_
        refine v_goto (tgt := 35) C dX5_use_31 (by decide) ?_
        refine v_put C (mC ad (upN ns 0 0)) P_X5_85 hm.1 rfl rfl rfl (Nat.le_of_ble_eq_true rfl) dX5_use_35 (v_nw (fun h9 eh9 => ?_))
        have hm9 := hm.putS 0 0 rfl eh9
        refine v_aload_n C 0 rfl dX5_use_38 rfl ?_
        refine v_get (v := .int (nI 0)) C F_X5_85 hm9.1 rfl dX5_use_39 ?_
        refine v_if_le (tgt := 47) C dX5_use_42 (by decide) (fun c10 => ?_) (fun c10 => absurd c10 (by decide))
        refine v_aload_n C 0 rfl dX5_use_47 rfl ?_
        refine v_aload_n C 0 rfl dX5_use_48 rfl ?_
        refine v_get (v := .ref (ad 29)) C F_X5_82 hm9.1 rfl dX5_use_49 ?_
        refine v_iload_n C 1 rfl dX5_use_52 rfl ?_
        refine v_lald C (hm9.2.2.2.1 29 rfl) (vpin (show j2 < 6 by omega) (by decide)) dX5_use_53 (v_eql (y := (la 29) j2) (congrArg (la 29) (nI_clamp (show j2 < 2 ^ 31 by omega))) ?_)
        refine v_iload_n C 3 rfl dX5_use_54 rfl ?_
        refine v_i2l (v := (v : Int32).toInt64) C dX5_use_55 rfl ?_
        refine v_ladd C dX5_use_56 (v_eql (y := (((la 29) j2) + (Int32.toInt64 v))) (rfl) ?_)
        refine v_aload_n C 0 rfl dX5_use_57 rfl ?_
        refine v_iload_n C 1 rfl dX5_use_58 rfl ?_
        refine v_iload_n C 2 rfl dX5_use_59 rfl ?_
        refine v_callV (rest := [.long (((la 29) j2) + (Int32.toInt64 v)), .ref m]) C (c_X5_sizeOf l hl G m ad (upN ns 0 0) na ia la h0 s j2 j5 h9 hm9 (hs.thr _) hw (show j2 < bN s by rw [e25]; omega) (by omega)) K_X5_204 hm9.1 rfl rfl (Nat.le_of_ble_eq_true rfl) ⟨Nat.le_of_ble_eq_true rfl, Nat.le_of_ble_eq_true rfl⟩ ⟨Nat.le_of_ble_eq_true rfl, Nat.le_of_ble_eq_true rfl⟩ dX5_use_60 (fun l12 h12 q12 => ?_)
        obtain ⟨e12, w, u, hm12⟩ := q12; subst e12
        refine v_lcmp C dX5_use_63 ?_
        refine v_if_le (tgt := 71) C dX5_use_64 (by decide) (fun c13 => ?_) (fun c13 => ?_)
        · have c13 := (lgc_le (((la 29) j2) + (Int32.toInt64 v)) (bSize s j2 j5)).mp c13
          have cD : ¬ bSize s (cl (nI j2)) (cl (nI j5)) < bU s (cl (nI j2)) + v.toInt64 := by rw [eCb, eCq, hU]; exact Int64.not_lt.mpr c13
          refine v_iconst (v := 0) C dX5_use_71 (by decide) ?_
          refine v_put C (mC ad (upN (upN ns 0 0) 0 0)) P_X5_85 hm12.1 rfl rfl rfl (Nat.le_of_ble_eq_true rfl) dX5_use_72 (v_nw (fun h14 eh14 => ?_))
          have hm14 := hm12.putS 0 0 rfl eh14
          refine v_aload_n C 0 rfl dX5_use_75 rfl ?_
          refine v_get (v := .ref (ad 29)) C F_X5_82 hm14.1 rfl dX5_use_76 ?_
          refine v_iload_n C 1 rfl dX5_use_79 rfl ?_
          refine v_dup2_11 C dX5_use_80 rfl rfl ?_
          refine v_lald C (hm14.2.2.2.1 29 rfl) (vpin (show j2 < 6 by omega) (by decide)) dX5_use_81 (v_eql (y := (la 29) j2) (congrArg (la 29) (nI_clamp (show j2 < 2 ^ 31 by omega))) ?_)
          refine v_aload_n C 0 rfl dX5_use_82 rfl ?_
          refine v_get (v := .int (nI 0)) C F_X5_85 hm14.1 rfl dX5_use_83 ?_
          refine v_if_le (tgt := 93) C dX5_use_86 (by decide) (fun c15 => ?_) (fun c15 => absurd c15 (by decide))
          refine v_iload_n C 3 rfl dX5_use_93 rfl ?_
          refine v_i2l (v := (v : Int32).toInt64) C dX5_use_94 rfl ?_
          refine v_ladd C dX5_use_95 (v_eql (y := (((la 29) j2) + (Int32.toInt64 v))) (rfl) ?_)
          refine v_last C (hm14.2.2.2.1 29 rfl) (vpin (show j2 < 6 by omega) (by decide)) dX5_use_96 (v_nw (fun h17 eh17 => ?_))
          have hm17 := hm14.putL2 (k := 29) rfl (g := (la 29)) (i := j2) (v := (((la 29) j2) + (Int32.toInt64 v))) (by omega) eh17
          refine v_aload_n C 0 rfl dX5_use_97 rfl ?_
          refine v_get (v := .ref (ad 29)) C F_X5_82 hm17.1 rfl dX5_use_98 ?_
          refine v_iload_n C 1 rfl dX5_use_101 rfl ?_
          refine v_lald C (hm17.2.2.2.1 29 rfl) (vpin (show j2 < 6 by omega) (by decide)) dX5_use_102 (v_eql (y := (up2 (la 29) j2 (((la 29) j2) + (Int32.toInt64 v))) j2) (congrArg (up2 (la 29) j2 (((la 29) j2) + (Int32.toInt64 v))) (nI_clamp (show j2 < 2 ^ 31 by omega))) ?_)
          have ek : (kUse s (nI j2) (nI j5) v) = 0 := (if_pos ⟨(by rw [e25]; exact c1), c4⟩).trans ((if_pos c7).trans (if_neg cD))
          exact v_lret C hQ hr (Nat.le_of_ble_eq_true rfl) (Nat.le_of_ble_eq_true rfl) dX5_use_103 (Or.inl ⟨ek, ⟨_, _, _, _, hm17, (by unfold nUse; rw [eCb, hU]; exact (hs.free (ns2 := ns) (la2 := up2 (up2 la 13 w) 12 u) rfl rfl rfl rfl (fun _ _ _ => rfl) rfl).used rfl rfl rfl rfl), rfl⟩, (by rw [eCb, up2_s, hU])⟩)
        · have c13 := (lgc_le_f (((la 29) j2) + (Int32.toInt64 v)) (bSize s j2 j5)).mp c13
          have cD : bSize s (cl (nI j2)) (cl (nI j5)) < bU s (cl (nI j2)) + v.toInt64 := by rw [eCb, eCq, hU]; exact Int64.not_le.mp c13
          refine v_iconst (v := 3) C dX5_use_67 (by decide) ?_
          refine v_goto (tgt := 72) C dX5_use_68 (by decide) ?_
          refine v_put C (mC ad (upN (upN ns 0 0) 0 3)) P_X5_85 hm12.1 rfl rfl rfl (Nat.le_of_ble_eq_true rfl) dX5_use_72 (v_nw (fun h18 eh18 => ?_))
          have hm18 := hm12.putS 0 3 rfl eh18
          refine v_aload_n C 0 rfl dX5_use_75 rfl ?_
          refine v_get (v := .ref (ad 29)) C F_X5_82 hm18.1 rfl dX5_use_76 ?_
          refine v_iload_n C 1 rfl dX5_use_79 rfl ?_
          refine v_dup2_11 C dX5_use_80 rfl rfl ?_
          refine v_lald C (hm18.2.2.2.1 29 rfl) (vpin (show j2 < 6 by omega) (by decide)) dX5_use_81 (v_eql (y := (la 29) j2) (congrArg (la 29) (nI_clamp (show j2 < 2 ^ 31 by omega))) ?_)
          refine v_aload_n C 0 rfl dX5_use_82 rfl ?_
          refine v_get (v := .int (nI 3)) C F_X5_85 hm18.1 rfl dX5_use_83 ?_
          refine v_if_le (tgt := 93) C dX5_use_86 (by decide) (fun c19 => absurd c19 (by decide)) (fun c19 => ?_)
          refine v_lconst (v := 0) C dX5_use_89 (by decide) ?_
          refine v_goto (tgt := 95) C dX5_use_90 (by decide) ?_
          refine v_ladd C dX5_use_95 (v_eql (y := (((la 29) j2) + 0)) (rfl) ?_)
          refine v_last C (hm18.2.2.2.1 29 rfl) (vpin (show j2 < 6 by omega) (by decide)) dX5_use_96 (v_nw (fun h21 eh21 => ?_))
          have hm21 := hm18.putL2 (k := 29) rfl (g := (la 29)) (i := j2) (v := (((la 29) j2) + 0)) (by omega) eh21
          refine v_aload_n C 0 rfl dX5_use_97 rfl ?_
          refine v_get (v := .ref (ad 29)) C F_X5_82 hm21.1 rfl dX5_use_98 ?_
          refine v_iload_n C 1 rfl dX5_use_101 rfl ?_
          refine v_lald C (hm21.2.2.2.1 29 rfl) (vpin (show j2 < 6 by omega) (by decide)) dX5_use_102 (v_eql (y := (up2 (la 29) j2 (((la 29) j2) + 0)) j2) (congrArg (up2 (la 29) j2 (((la 29) j2) + 0)) (nI_clamp (show j2 < 2 ^ 31 by omega))) ?_)
          have ek : (kUse s (nI j2) (nI j5) v) = 3 := (if_pos ⟨(by rw [e25]; exact c1), c4⟩).trans ((if_pos c7).trans (if_pos cD))
          exact v_lret C hQ hr (Nat.le_of_ble_eq_true rfl) (Nat.le_of_ble_eq_true rfl) dX5_use_103 (Or.inr ⟨(by rw [ek]; decide), (by rw [ek]; exact ⟨_, _, _, _, hm21, (hs.free rfl rfl rfl rfl (fun _ _ _ => rfl) up2_a0), rfl⟩)⟩)
      · rw [zb_f c7] at e7; subst e7
        refine v_if_eq (tgt := 34) C dX5_use_27 (by decide) (fun c22 => ?_) (fun c22 => absurd c22 (by decide))
        refine v_iconst (v := 2) C dX5_use_34 (by decide) ?_
        refine v_put C (mC ad (upN ns 0 2)) P_X5_85 hm.1 rfl rfl rfl (Nat.le_of_ble_eq_true rfl) dX5_use_35 (v_nw (fun h23 eh23 => ?_))
        have hm23 := hm.putS 0 2 rfl eh23
        refine v_aload_n C 0 rfl dX5_use_38 rfl ?_
        refine v_get (v := .int (nI 2)) C F_X5_85 hm23.1 rfl dX5_use_39 ?_
        refine v_if_le (tgt := 47) C dX5_use_42 (by decide) (fun c24 => absurd c24 (by decide)) (fun c24 => ?_)
        refine v_lconst (v := 0) C dX5_use_45 (by decide) ?_
        have ek : (kUse s (nI j2) (nI j5) v) = 2 := by simp [kUse, inN, wth, e25, c1, c4, c7]
        exact v_lret C hQ hr (Nat.le_of_ble_eq_true rfl) (Nat.le_of_ble_eq_true rfl) dX5_use_46 (Or.inr ⟨(by rw [ek]; decide), (by rw [ek]; exact ⟨_, _, _, _, hm23, hs.thr _, rfl⟩)⟩)
    · rw [zb_f c4] at e4; subst e4
      refine v_if_ne (tgt := 20) C dX5_use_13 (by decide) (fun c25 => absurd c25 (by decide)) (fun c25 => ?_)
      refine v_iconst (v := 1) C dX5_use_16 (by decide) ?_
      refine v_goto (tgt := 35) C dX5_use_17 (by decide) ?_
      refine v_put C (mC ad (upN ns 0 1)) P_X5_85 hm.1 rfl rfl rfl (Nat.le_of_ble_eq_true rfl) dX5_use_35 (v_nw (fun h26 eh26 => ?_))
      have hm26 := hm.putS 0 1 rfl eh26
      refine v_aload_n C 0 rfl dX5_use_38 rfl ?_
      refine v_get (v := .int (nI 1)) C F_X5_85 hm26.1 rfl dX5_use_39 ?_
      refine v_if_le (tgt := 47) C dX5_use_42 (by decide) (fun c27 => absurd c27 (by decide)) (fun c27 => ?_)
      refine v_lconst (v := 0) C dX5_use_45 (by decide) ?_
      have ek : (kUse s (nI j2) q v) = 1 := by simp [kUse, inN, wth, e25, c1, c4]
      exact v_lret C hQ hr (Nat.le_of_ble_eq_true rfl) (Nat.le_of_ble_eq_true rfl) dX5_use_46 (Or.inr ⟨(by rw [ek]; decide), (by rw [ek]; exact ⟨_, _, _, _, hm26, hs.thr _, rfl⟩)⟩)
  · rw [zb_f c1] at e1; subst e1
    refine v_if_eq (tgt := 16) C dX5_use_6 (by decide) (fun c28 => ?_) (fun c28 => absurd c28 (by decide))
    refine v_iconst (v := 1) C dX5_use_16 (by decide) ?_
    refine v_goto (tgt := 35) C dX5_use_17 (by decide) ?_
    refine v_put C (mC ad (upN ns 0 1)) P_X5_85 hm.1 rfl rfl rfl (Nat.le_of_ble_eq_true rfl) dX5_use_35 (v_nw (fun h29 eh29 => ?_))
    have hm29 := hm.putS 0 1 rfl eh29
    refine v_aload_n C 0 rfl dX5_use_38 rfl ?_
    refine v_get (v := .int (nI 1)) C F_X5_85 hm29.1 rfl dX5_use_39 ?_
    refine v_if_le (tgt := 47) C dX5_use_42 (by decide) (fun c30 => absurd c30 (by decide)) (fun c30 => ?_)
    refine v_lconst (v := 0) C dX5_use_45 (by decide) ?_
    have ek : (kUse s b q v) = 1 := by simp [kUse, inN, wth, e25, c1]
    exact v_lret C hQ hr (Nat.le_of_ble_eq_true rfl) (Nat.le_of_ble_eq_true rfl) dX5_use_46 (Or.inr ⟨(by rw [ek]; decide), (by rw [ek]; exact ⟨_, _, _, _, hm29, hs.thr _, rfl⟩)⟩)

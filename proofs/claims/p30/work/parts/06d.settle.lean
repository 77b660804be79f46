/-! settling a formula -/
def SetI (l : Launch) (G : zG) (g : XGh) (N : Nat) (tl : Nat → Nat) (A V : Nat → Nat → Int64) (i n d : Nat) : Prop := ∀ (a : Nat) (h : zH), SC G h g N tl A V i → qR g a = (11, 0) → gtk (qT g a) ≤ i → qL g a ≤ d → zMet eV l yX4_settleFormula cX4_settleFormula 3 none n 0 0 G [.ref a, .int (nI d)] h (fun _ h2 => SF G g A V E0 h h2 ∧ RC G h2 g A V a)
set_option maxHeartbeats 4000000 in
set_option maxRecDepth 100000 in
theorem c_settle_null (l : Launch) (hl : l.stackTraces = false) (G : zG) (n d : Nat) (h : zH) (hn : 20 ≤ n) : zMet eV l yX4_settleFormula cX4_settleFormula 3 none n 0 0 G [.null, .int (nI d)] h (fun _ h2 => h = h2) := by
  refine con_of hl RX4 rfl (by decide +kernel) [(0, .null), (1, .int (nI d))] rfl (Nat.le_of_ble_eq_true rfl) ?_
  intro zp ze zs zm zargs zbelow zmeth zc C hr hin Q hQ
  refine v_aload_nN C 0 rfl dX4_settleFormula_0 rfl ?_
  refine v_ifnullN (tgt := 16) C dX4_settleFormula_1 (by decide) ?_
  exact v_vret C hQ hr (Nat.le_of_ble_eq_true rfl) (Nat.le_of_ble_eq_true rfl) dX4_settleFormula_16 rfl
set_option maxHeartbeats 4000000 in
set_option maxRecDepth 100000 in
theorem c_settle_leaf (l : Launch) (hl : l.stackTraces = false) (G : zG) (n d a : Nat) (w1 w2 w3 w4 w5 w6 w7 : Value) (h : zH) (ha : h a = some (.inr (4, [.int (nI 4), w1, w2, w3, w4, w5, w6, w7]))) (hn : 20 ≤ n) : zMet eV l yX4_settleFormula cX4_settleFormula 3 none n 0 0 G [.ref a, .int (nI d)] h (fun _ h2 => h = h2) := by
  refine con_of hl RX4 rfl (by decide +kernel) [(0, .ref a), (1, .int (nI d))] rfl (Nat.le_of_ble_eq_true rfl) ?_
  intro zp ze zs zm zargs zbelow zmeth zc C hr hin Q hQ
  refine v_aload_n C 0 rfl dX4_settleFormula_0 rfl ?_
  refine v_ifnull C dX4_settleFormula_1 ?_
  refine v_aload_n C 0 rfl dX4_settleFormula_4 rfl ?_
  refine v_get (v := .int (nI 4)) C F_X4_237 ha rfl dX4_settleFormula_5 ?_
  refine v_iconst (v := 4) C dX4_settleFormula_8 (by decide) ?_
  refine v_icmp_eq (tgt := 16) C dX4_settleFormula_9 (by decide) (fun c1 => ?_) (fun c1 => absurd c1 (by decide))
  exact v_vret C hQ hr (Nat.le_of_ble_eq_true rfl) (Nat.le_of_ble_eq_true rfl) dX4_settleFormula_16 rfl
set_option maxHeartbeats 4000000 in
set_option maxRecDepth 100000 in
theorem c_settle_J (l : Launch) (hl : l.stackTraces = false) (G : zG) (n dp a i N k p : Nat) (f0 : Nat → Int64) (tl : Nat → Nat) (g : XGh) (A B : Nat → Nat → Int64) (h : zH) (ih : SetI l G g N tl A B i n dp) (hn : 20 ≤ n) (hd6 : dp < 6) (hsc : SC G h g N tl A B i) (hra : qR g a = (11, 0)) (hga : gtk (qT g a) ≤ i) (hla : qL g a ≤ dp + 1) (ha : h a = some (.inr (4, [.int (nI k), .int (nI p), .ref (qN g a 3), .ref (qN g a 4), .int (nI (qL g a)), .int (gI (gtk (qT g a))), .ref (qN g a 1), .ref (qN g a 0)]))) (hrr : qR g (qN g a 0) = (12, a)) (hrow : h (qN g a 0) = some (cL G f0)) (r3 : qR g (qN g a 3) = (11, 0)) (hk : k < 4) (r4 : qR g (qN g a 4) = (11, 0)) (htk : qT g a = qT g (qN g a 3) ++ qT g (qN g a 4) ++ [(k, 0)]) (hlv : qL g a = 1 + max (qL g (qN g a 3)) (qL g (qN g a 4))) : zMet eV l yX4_settleFormula cX4_settleFormula 3 none (n + 1) 0 0 G [.ref a, .int (nI (dp + 1))] h (fun _ h2 => SF G g A B E0 h h2 ∧ RC G h2 g A B a) := by
  refine con_of hl RX4 rfl (by decide +kernel) [(0, .ref a), (1, .int (nI (dp + 1)))] rfl (Nat.le_of_ble_eq_true rfl) ?_
  intro zp ze zs zm zargs zbelow zmeth zc C hr hin Q hQ
  have hg3 : gtk (qT g (qN g a 3)) ≤ i := by have e := hga; rw [htk, gtk_app, gtk_app] at e; omega
  have hl3 : qL g (qN g a 3) ≤ dp := by omega
  have na3 : (qN g a 3) ≠ a := fun z => by rw [z] at hlv; omega
  have hg4 : gtk (qT g (qN g a 4)) ≤ i := by have e := hga; rw [htk, gtk_app, gtk_app] at e; omega
  have hl4 : qL g (qN g a 4) ≤ dp := by omega
  have na4 : (qN g a 4) ≠ a := fun z => by rw [z] at hlv; omega
  have hlen : 2 ≤ (qT g a).length := by
      obtain ⟨-, -, w3, -⟩ := hsc.2.2 _ r3
      have := w3.len; rw [htk]; simp only [List.length_append, List.length_cons, List.length_nil]; omega
  refine v_aload_n C 0 rfl dX4_settleFormula_0 rfl ?_
  refine v_ifnull C dX4_settleFormula_1 ?_
  refine v_aload_n C 0 rfl dX4_settleFormula_4 rfl ?_
  refine v_get (v := .int (nI k)) C F_X4_237 ha rfl dX4_settleFormula_5 ?_
  refine v_iconst (v := 4) C dX4_settleFormula_8 (by decide) ?_
  refine v_icmp_eq (tgt := 16) C dX4_settleFormula_9 (by decide) (fun c1 => absurd ((nk_eq (a := k) 4 (by decide) (by omega) (by decide)).mp c1) (by omega)) (fun c1 => ?_)
  have c1 := (nk_eq_f (a := k) 4 (by decide) (by omega) (by decide)).mp c1
  refine v_iload_n C 1 rfl dX4_settleFormula_12 rfl ?_
  refine v_if_gt (tgt := 17) C dX4_settleFormula_13 (by decide) (fun c2 => ?_) (fun c2 => absurd ((nk_gt (a := dp + 1) (y := 0) 0 (by decide) (by omega) (by decide)).mpr (by omega)) c2)
  have c2 := (nk_gt (a := (dp + 1)) 0 (by decide) (by omega) (by decide)).mp c2
  refine v_aload_n C 0 rfl dX4_settleFormula_17 rfl ?_
  refine v_get (v := .ref (qN g a 3)) C F_X4_240 ha rfl dX4_settleFormula_18 ?_
  refine v_iload_n C 1 rfl dX4_settleFormula_21 rfl ?_
  refine v_iconst (v := 1) C dX4_settleFormula_22 (by decide) ?_
  refine v_isub C dX4_settleFormula_23 (v_eqi (y := (nI dp)) (nI_p1m1 dp) ?_)
  refine v_callS (rest := []) C (ih (qN g a 3) h hsc r3 hg3 hl3) S_X4_232 rfl rfl (by first | exact Nat.le_of_ble_eq_true rfl | (unfold rmm; dsimp only; omega)) ⟨(by first | exact Nat.le_of_ble_eq_true rfl | (unfold rmm; dsimp only; omega)), (by first | exact Nat.le_of_ble_eq_true rfl | (unfold rmm; dsimp only; omega))⟩ ⟨(by first | exact Nat.le_of_ble_eq_true rfl | (unfold rmm; dsimp only; omega)), (by first | exact Nat.le_of_ble_eq_true rfl | (unfold rmm; dsimp only; omega))⟩ dX4_settleFormula_24 (fun _ h4 w4 => ?_)
  obtain ⟨sf4, rc4⟩ := w4
  have ha4 := sf4.cell ha hra (by decide) (fun z => z)
  have sc4 := hsc.sf sf4 (fun z => z) (fun z => z) (fun _ z => z) (fun _ _ z => z)
  refine v_aload_n C 0 rfl dX4_settleFormula_27 rfl ?_
  refine v_get (v := .ref (qN g a 4)) C F_X4_244 ha4 rfl dX4_settleFormula_28 ?_
  refine v_iload_n C 1 rfl dX4_settleFormula_31 rfl ?_
  refine v_iconst (v := 1) C dX4_settleFormula_32 (by decide) ?_
  refine v_isub C dX4_settleFormula_33 (v_eqi (y := (nI dp)) (nI_p1m1 dp) ?_)
  refine v_callS (rest := []) C (ih (qN g a 4) h4 sc4 r4 hg4 hl4) S_X4_232 rfl rfl (by first | exact Nat.le_of_ble_eq_true rfl | (unfold rmm; dsimp only; omega)) ⟨(by first | exact Nat.le_of_ble_eq_true rfl | (unfold rmm; dsimp only; omega)), (by first | exact Nat.le_of_ble_eq_true rfl | (unfold rmm; dsimp only; omega))⟩ ⟨(by first | exact Nat.le_of_ble_eq_true rfl | (unfold rmm; dsimp only; omega)), (by first | exact Nat.le_of_ble_eq_true rfl | (unfold rmm; dsimp only; omega))⟩ dX4_settleFormula_34 (fun _ h6 w6 => ?_)
  obtain ⟨sf6, rc6⟩ := w6
  have ha6 := sf6.cell ha4 hra (by decide) (fun z => z)
  have sc6 := sc4.sf sf6 (fun z => z) (fun z => z) (fun _ z => z) (fun _ _ z => z)
  have rc3b := RC.sf sc4 r3 hg3 rc4 sf6 (fun _ z => z) (fun _ _ z => z)
  refine v_iconst (v := 0) C dX4_settleFormula_37 (by decide) ?_
  refine v_istore_n C [(2, .int 0), (0, .ref a), (1, .int (nI (dp + 1)))] rfl (by decide) dX4_settleFormula_38 rfl ?_
  have sfa := (sf4.trans sf6)
  obtain ⟨m1, m2, m3, -, -, kd1, p1, c11, c12, hc1, -⟩ := sc6.2.2 _ r3
  obtain ⟨f1, hf1, hq1⟩ := rc3b
  have n3 : (qN g a 3) ≠ (qN g a 0) := rne hrr r3 (by simp)
  have n3r : qN g (qN g a 3) 0 ≠ (qN g a 0) := row_ne hsc r3 hg3 na3 hrr
  obtain ⟨z1, z2, z3, -, -, kd2, p2, c21, c22, hc2, -⟩ := sc6.2.2 _ r4
  obtain ⟨f2, hf2, hq2⟩ := rc6
  have n4 : (qN g a 4) ≠ (qN g a 0) := rne hrr r4 (by simp)
  have n4r : qN g (qN g a 4) 0 ≠ (qN g a 0) := row_ne hsc r4 hg4 na4 hrr
  have hval : ∀ q, q < 20 → sjn k (f1 q) (f2 q) = rowOf A B (qT g a) q := fun q hq => by rw [htk, row_join (m3.up m2) (z3.up z2) hk, hq1 q hq, hq2 q hq]
  obtain ⟨fr, hfr, -⟩ := sfa.2 _ f0 hrow (by rw [hrr])
  have L7 : ∀ (d : Nat) (q : Nat) (f3 : Nat → Int64) (h3 : zH), (q ≤ 20) → (h3 a = some (.inr (4, [.int (nI k), .int (nI p), .ref (qN g a 3), .ref (qN g a 4), .int (nI (qL g a)), .int (gI (gtk (qT g a))), .ref (qN g a 1), .ref (qN g a 0)]))) → (h3 (qN g a 0) = some (cL G f3)) → (∀ b, b ≠ (qN g a 0) → h3 b = h6 b) → (∀ z, z < q → f3 z = rowOf A B (qT g a) z) → (21 ≤ q + d) → V zp l ze (rmm (n + 1) 0 0) zs zm zargs zbelow zmeth zc G 3 Q h3 (0 + 0 + 0) (0 + 0 + 0) 39 [(2, .int (nI q)), (0, .ref a), (1, .int (nI (dp + 1)))] [] := by
    intro d
    induction d with
    | zero =>
      intro q f3 h3 hq ka kr kF kf hd
      exact absurd hd (by omega)
    | succ d ih7 =>
      intro q f3 h3 hq ka kr kF kf hd
      refine v_iload_n C 0 rfl dX4_settleFormula_39 rfl ?_
      refine v_bipush (v := 20) C dX4_settleFormula_40 (by decide) ?_
      refine v_icmp_ge (tgt := 62) C dX4_settleFormula_42 (by decide) (fun c8 => ?_) (fun c8 => ?_)
      · have c8 := (nk_ge (a := q) 20 (by decide) (by omega) (by decide)).mp c8
        exact v_vret C hQ hr (Nat.le_of_ble_eq_true rfl) (Nat.le_of_ble_eq_true rfl) dX4_settleFormula_62 ⟨SF.row sfa hrow hrr hlen kr kF (fun z hz => kf z (by omega)), f3, kr, fun z hz => kf z (by omega)⟩
      · have c8 := (nk_ge_f (a := q) 20 (by decide) (by omega) (by decide)).mp c8
        refine v_aload_n C 1 rfl dX4_settleFormula_45 rfl ?_
        refine v_get (v := .ref (qN g a 0)) C F_X4_236 ka rfl dX4_settleFormula_46 ?_
        refine v_iload_n C 0 rfl dX4_settleFormula_49 rfl ?_
        refine v_aload_n C 1 rfl dX4_settleFormula_50 rfl ?_
        refine v_iload_n C 0 rfl dX4_settleFormula_51 rfl ?_
        refine v_callS (rest := [.int (nI q), .ref (qN g a 0)]) C (c_X4_valueMade_J l hl G a (qN g a 3) (qN g (qN g a 3) 0) q f1 (qN g a 4) (qN g (qN g a 4) 0) k f2 _ _ _ _ _ _ _ _ _ _ _ _ _ _ _ _ _ _ _ h3 ka (by rw [kF _ n3]; exact hc1) (by rw [kF _ n3r]; exact hf1) (by omega) (by rw [kF _ n4]; exact hc2) (by rw [kF _ n4r]; exact hf2) hk) S_X4_247 rfl rfl (by first | exact Nat.le_of_ble_eq_true rfl | (unfold rmm; dsimp only; omega)) ⟨(by first | exact Nat.le_of_ble_eq_true rfl | (unfold rmm; dsimp only; omega)), (by first | exact Nat.le_of_ble_eq_true rfl | (unfold rmm; dsimp only; omega))⟩ ⟨(by first | exact Nat.le_of_ble_eq_true rfl | (unfold rmm; dsimp only; omega)), (by first | exact Nat.le_of_ble_eq_true rfl | (unfold rmm; dsimp only; omega))⟩ dX4_settleFormula_52 (fun l9 h9 q9 => ?_)
        obtain ⟨e9, rfl⟩ := q9; subst e9
        refine v_last C kr (vpin (by omega) (by decide)) dX4_settleFormula_55 (v_nw (fun h10 eh10 => ?_))
        have k11 : h10 a = some (.inr (4, [.int (nI k), .int (nI p), .ref (qN g a 3), .ref (qN g a 4), .int (nI (qL g a)), .int (gI (gtk (qT g a))), .ref (qN g a 1), .ref (qN g a 0)])) := by rw [eh10, zup_ne _ _ (zne_lo kr ka)]; exact ka
        have k12 : h10 (qN g a 0) = some (.inl (gc G 1, 20, .inr (.inl (vp_updL f3 (nI q).toNatClampNeg (sjn k (f1 q) (f2 q)))))) := by rw [eh10]; exact zup_self _ _ _
        refine v_iinc C 0 [(2, .int (nI (q + 1))), (0, .ref a), (1, .int (nI (dp + 1)))] rfl (nI_inc q 1 (by decide)) rfl (by decide) dX4_settleFormula_56 ?_
        refine v_goto (tgt := 39) C dX4_settleFormula_59 (by decide) ?_
        refine v_lvp [0, 1, 2] rfl ?_
        exact ih7 (q + 1) _ h10 (by omega) k11 k12 (fun b hb => by rw [eh10, zup_ne _ _ hb]; exact kF b hb) (fun z hz => by
              rw [nI_clamp (by omega)]
              by_cases y : z = q
              · subst y; rw [pk_uLs]; exact hval _ (by omega)
              · rw [pk_uLn y]; exact kf z (by omega)) (by omega)
  refine v_lvp [0, 1, 2] rfl ?_
  exact L7 21 0 fr h6 (by decide) ha6 hfr (fun _ _ => rfl) (fun z hz => absurd hz (by omega)) (by omega)
set_option maxHeartbeats 4000000 in
set_option maxRecDepth 100000 in
theorem c_settle_S (l : Launch) (hl : l.stackTraces = false) (G : zG) (n dp a i N k p : Nat) (f0 : Nat → Int64) (tl : Nat → Nat) (g : XGh) (A B : Nat → Nat → Int64) (h : zH) (ih : SetI l G g N tl A B i n dp) (hn : 20 ≤ n) (hd6 : dp < 6) (hsc : SC G h g N tl A B i) (hra : qR g a = (11, 0)) (hga : gtk (qT g a) ≤ i) (hla : qL g a ≤ dp + 1) (ha : h a = some (.inr (4, [.int (nI 5), .int (nI p), .ref (qN g a 3), .null, .int (nI (qL g a)), .int (gI (gtk (qT g a))), .ref (qN g a 1), .ref (qN g a 0)]))) (hrr : qR g (qN g a 0) = (12, a)) (hrow : h (qN g a 0) = some (cL G f0)) (r3 : qR g (qN g a 3) = (11, 0)) (htk : qT g a = qT g (qN g a 3) ++ [(7, p)]) (hlv : qL g a = qL g (qN g a 3) + 1) : zMet eV l yX4_settleFormula cX4_settleFormula 3 none (n + 1) 0 0 G [.ref a, .int (nI (dp + 1))] h (fun _ h2 => SF G g A B E0 h h2 ∧ RC G h2 g A B a) := by
  refine con_of hl RX4 rfl (by decide +kernel) [(0, .ref a), (1, .int (nI (dp + 1)))] rfl (Nat.le_of_ble_eq_true rfl) ?_
  intro zp ze zs zm zargs zbelow zmeth zc C hr hin Q hQ
  have hg3 : gtk (qT g (qN g a 3)) ≤ i := by have e := hga; rw [htk, gtk_app] at e; omega
  have hl3 : qL g (qN g a 3) ≤ dp := by omega
  have na3 : (qN g a 3) ≠ a := fun z => by rw [z] at hlv; omega
  have hlen : 2 ≤ (qT g a).length := by
      obtain ⟨-, -, w3, -⟩ := hsc.2.2 _ r3
      have := w3.len; rw [htk]; simp only [List.length_append, List.length_cons, List.length_nil]; omega
  refine v_aload_n C 0 rfl dX4_settleFormula_0 rfl ?_
  refine v_ifnull C dX4_settleFormula_1 ?_
  refine v_aload_n C 0 rfl dX4_settleFormula_4 rfl ?_
  refine v_get (v := .int (nI 5)) C F_X4_237 ha rfl dX4_settleFormula_5 ?_
  refine v_iconst (v := 4) C dX4_settleFormula_8 (by decide) ?_
  refine v_icmp_eq (tgt := 16) C dX4_settleFormula_9 (by decide) (fun c1 => absurd c1 (by decide)) (fun c1 => ?_)
  refine v_iload_n C 1 rfl dX4_settleFormula_12 rfl ?_
  refine v_if_gt (tgt := 17) C dX4_settleFormula_13 (by decide) (fun c2 => ?_) (fun c2 => absurd ((nk_gt (a := dp + 1) (y := 0) 0 (by decide) (by omega) (by decide)).mpr (by omega)) c2)
  have c2 := (nk_gt (a := (dp + 1)) 0 (by decide) (by omega) (by decide)).mp c2
  refine v_aload_n C 0 rfl dX4_settleFormula_17 rfl ?_
  refine v_get (v := .ref (qN g a 3)) C F_X4_240 ha rfl dX4_settleFormula_18 ?_
  refine v_iload_n C 1 rfl dX4_settleFormula_21 rfl ?_
  refine v_iconst (v := 1) C dX4_settleFormula_22 (by decide) ?_
  refine v_isub C dX4_settleFormula_23 (v_eqi (y := (nI dp)) (nI_p1m1 dp) ?_)
  refine v_callS (rest := []) C (ih (qN g a 3) h hsc r3 hg3 hl3) S_X4_232 rfl rfl (by first | exact Nat.le_of_ble_eq_true rfl | (unfold rmm; dsimp only; omega)) ⟨(by first | exact Nat.le_of_ble_eq_true rfl | (unfold rmm; dsimp only; omega)), (by first | exact Nat.le_of_ble_eq_true rfl | (unfold rmm; dsimp only; omega))⟩ ⟨(by first | exact Nat.le_of_ble_eq_true rfl | (unfold rmm; dsimp only; omega)), (by first | exact Nat.le_of_ble_eq_true rfl | (unfold rmm; dsimp only; omega))⟩ dX4_settleFormula_24 (fun _ h4 w4 => ?_)
  obtain ⟨sf4, rc4⟩ := w4
  have ha4 := sf4.cell ha hra (by decide) (fun z => z)
  have sc4 := hsc.sf sf4 (fun z => z) (fun z => z) (fun _ z => z) (fun _ _ z => z)
  refine v_aload_n C 0 rfl dX4_settleFormula_27 rfl ?_
  refine v_get (v := .null) C F_X4_244 ha4 rfl dX4_settleFormula_28 ?_
  refine v_iload_n C 1 rfl dX4_settleFormula_31 rfl ?_
  refine v_iconst (v := 1) C dX4_settleFormula_32 (by decide) ?_
  refine v_isub C dX4_settleFormula_33 (v_eqi (y := (nI dp)) (nI_p1m1 dp) ?_)
  refine v_callS (rest := []) C (c_settle_null l hl G n dp h4 hn) S_X4_232 rfl rfl (by first | exact Nat.le_of_ble_eq_true rfl | (unfold rmm; dsimp only; omega)) ⟨(by first | exact Nat.le_of_ble_eq_true rfl | (unfold rmm; dsimp only; omega)), (by first | exact Nat.le_of_ble_eq_true rfl | (unfold rmm; dsimp only; omega))⟩ ⟨(by first | exact Nat.le_of_ble_eq_true rfl | (unfold rmm; dsimp only; omega)), (by first | exact Nat.le_of_ble_eq_true rfl | (unfold rmm; dsimp only; omega))⟩ dX4_settleFormula_34 (fun _ h6 q6 => ?_)
  subst q6
  refine v_iconst (v := 0) C dX4_settleFormula_37 (by decide) ?_
  refine v_istore_n C [(2, .int 0), (0, .ref a), (1, .int (nI (dp + 1)))] rfl (by decide) dX4_settleFormula_38 rfl ?_
  have sfa := sf4
  obtain ⟨m1, m2, m3, -, -, kd1, p1, c11, c12, hc1, -⟩ := sc4.2.2 _ r3
  obtain ⟨f1, hf1, hq1⟩ := rc4
  have n3 : (qN g a 3) ≠ (qN g a 0) := rne hrr r3 (by simp)
  have n3r : qN g (qN g a 3) 0 ≠ (qN g a 0) := row_ne hsc r3 hg3 na3 hrr
  have hval : ∀ q, q < 20 → zfd (f1 q * lN64 p) = rowOf A B (qT g a) q := fun q hq => by rw [htk, row_share m3, hq1 q hq]
  obtain ⟨fr, hfr, -⟩ := sfa.2 _ f0 hrow (by rw [hrr])
  have L7 : ∀ (d : Nat) (q : Nat) (f3 : Nat → Int64) (h3 : zH), (q ≤ 20) → (h3 a = some (.inr (4, [.int (nI 5), .int (nI p), .ref (qN g a 3), .null, .int (nI (qL g a)), .int (gI (gtk (qT g a))), .ref (qN g a 1), .ref (qN g a 0)]))) → (h3 (qN g a 0) = some (cL G f3)) → (∀ b, b ≠ (qN g a 0) → h3 b = h4 b) → (∀ z, z < q → f3 z = rowOf A B (qT g a) z) → (21 ≤ q + d) → V zp l ze (rmm (n + 1) 0 0) zs zm zargs zbelow zmeth zc G 3 Q h3 (0 + 0 + 0) (0 + 0 + 0) 39 [(2, .int (nI q)), (0, .ref a), (1, .int (nI (dp + 1)))] [] := by
    intro d
    induction d with
    | zero =>
      intro q f3 h3 hq ka kr kF kf hd
      exact absurd hd (by omega)
    | succ d ih7 =>
      intro q f3 h3 hq ka kr kF kf hd
      refine v_iload_n C 0 rfl dX4_settleFormula_39 rfl ?_
      refine v_bipush (v := 20) C dX4_settleFormula_40 (by decide) ?_
      refine v_icmp_ge (tgt := 62) C dX4_settleFormula_42 (by decide) (fun c8 => ?_) (fun c8 => ?_)
      · have c8 := (nk_ge (a := q) 20 (by decide) (by omega) (by decide)).mp c8
        exact v_vret C hQ hr (Nat.le_of_ble_eq_true rfl) (Nat.le_of_ble_eq_true rfl) dX4_settleFormula_62 ⟨SF.row sfa hrow hrr hlen kr kF (fun z hz => kf z (by omega)), f3, kr, fun z hz => kf z (by omega)⟩
      · have c8 := (nk_ge_f (a := q) 20 (by decide) (by omega) (by decide)).mp c8
        refine v_aload_n C 1 rfl dX4_settleFormula_45 rfl ?_
        refine v_get (v := .ref (qN g a 0)) C F_X4_236 ka rfl dX4_settleFormula_46 ?_
        refine v_iload_n C 0 rfl dX4_settleFormula_49 rfl ?_
        refine v_aload_n C 1 rfl dX4_settleFormula_50 rfl ?_
        refine v_iload_n C 0 rfl dX4_settleFormula_51 rfl ?_
        refine v_callS (rest := [.int (nI q), .ref (qN g a 0)]) C (c_X4_valueMade_S l hl G a (qN g a 3) (qN g (qN g a 3) 0) q f1 p _ _ _ _ _ _ _ _ _ _ _ h3 ka (by rw [kF _ n3]; exact hc1) (by rw [kF _ n3r]; exact hf1) (by omega)) S_X4_247 rfl rfl (by first | exact Nat.le_of_ble_eq_true rfl | (unfold rmm; dsimp only; omega)) ⟨(by first | exact Nat.le_of_ble_eq_true rfl | (unfold rmm; dsimp only; omega)), (by first | exact Nat.le_of_ble_eq_true rfl | (unfold rmm; dsimp only; omega))⟩ ⟨(by first | exact Nat.le_of_ble_eq_true rfl | (unfold rmm; dsimp only; omega)), (by first | exact Nat.le_of_ble_eq_true rfl | (unfold rmm; dsimp only; omega))⟩ dX4_settleFormula_52 (fun l9 h9 q9 => ?_)
        obtain ⟨e9, rfl⟩ := q9; subst e9
        refine v_last C kr (vpin (by omega) (by decide)) dX4_settleFormula_55 (v_nw (fun h10 eh10 => ?_))
        have k11 : h10 a = some (.inr (4, [.int (nI 5), .int (nI p), .ref (qN g a 3), .null, .int (nI (qL g a)), .int (gI (gtk (qT g a))), .ref (qN g a 1), .ref (qN g a 0)])) := by rw [eh10, zup_ne _ _ (zne_lo kr ka)]; exact ka
        have k12 : h10 (qN g a 0) = some (.inl (gc G 1, 20, .inr (.inl (vp_updL f3 (nI q).toNatClampNeg (zfd (f1 q * lN64 p)))))) := by rw [eh10]; exact zup_self _ _ _
        refine v_iinc C 0 [(2, .int (nI (q + 1))), (0, .ref a), (1, .int (nI (dp + 1)))] rfl (nI_inc q 1 (by decide)) rfl (by decide) dX4_settleFormula_56 ?_
        refine v_goto (tgt := 39) C dX4_settleFormula_59 (by decide) ?_
        refine v_lvp [0, 1, 2] rfl ?_
        exact ih7 (q + 1) _ h10 (by omega) k11 k12 (fun b hb => by rw [eh10, zup_ne _ _ hb]; exact kF b hb) (fun z hz => by
              rw [nI_clamp (by omega)]
              by_cases y : z = q
              · subst y; rw [pk_uLs]; exact hval _ (by omega)
              · rw [pk_uLn y]; exact kf z (by omega)) (by omega)
  refine v_lvp [0, 1, 2] rfl ?_
  exact L7 21 0 fr h4 (by decide) ha4 hfr (fun _ _ => rfl) (fun z hz => absurd hz (by omega)) (by omega)
set_option maxHeartbeats 4000000 in
set_option maxRecDepth 100000 in
theorem c_settle_Y (l : Launch) (hl : l.stackTraces = false) (G : zG) (n dp a i N k p : Nat) (f0 : Nat → Int64) (tl : Nat → Nat) (g : XGh) (A B : Nat → Nat → Int64) (h : zH) (ih : SetI l G g N tl A B i n dp) (hn : 20 ≤ n) (hd6 : dp < 6) (hsc : SC G h g N tl A B i) (hra : qR g a = (11, 0)) (hga : gtk (qT g a) ≤ i) (hla : qL g a ≤ dp + 1) (ha : h a = some (.inr (4, [.int (nI 6), .int (nI p), .ref (qN g a 3), .null, .int (nI (qL g a)), .int (gI (gtk (qT g a))), .ref (qN g a 1), .ref (qN g a 0)]))) (hrr : qR g (qN g a 0) = (12, a)) (hrow : h (qN g a 0) = some (cL G f0)) (r3 : qR g (qN g a 3) = (11, 0)) (htk : qT g a = qT g (qN g a 3) ++ [(8, 0)]) (hlv : qL g a = qL g (qN g a 3) + 1) : zMet eV l yX4_settleFormula cX4_settleFormula 3 none (n + 1) 0 0 G [.ref a, .int (nI (dp + 1))] h (fun _ h2 => SF G g A B E0 h h2 ∧ RC G h2 g A B a) := by
  refine con_of hl RX4 rfl (by decide +kernel) [(0, .ref a), (1, .int (nI (dp + 1)))] rfl (Nat.le_of_ble_eq_true rfl) ?_
  intro zp ze zs zm zargs zbelow zmeth zc C hr hin Q hQ
  have hg3 : gtk (qT g (qN g a 3)) ≤ i := by have e := hga; rw [htk, gtk_app] at e; omega
  have hl3 : qL g (qN g a 3) ≤ dp := by omega
  have na3 : (qN g a 3) ≠ a := fun z => by rw [z] at hlv; omega
  have hlen : 2 ≤ (qT g a).length := by
      obtain ⟨-, -, w3, -⟩ := hsc.2.2 _ r3
      have := w3.len; rw [htk]; simp only [List.length_append, List.length_cons, List.length_nil]; omega
  refine v_aload_n C 0 rfl dX4_settleFormula_0 rfl ?_
  refine v_ifnull C dX4_settleFormula_1 ?_
  refine v_aload_n C 0 rfl dX4_settleFormula_4 rfl ?_
  refine v_get (v := .int (nI 6)) C F_X4_237 ha rfl dX4_settleFormula_5 ?_
  refine v_iconst (v := 4) C dX4_settleFormula_8 (by decide) ?_
  refine v_icmp_eq (tgt := 16) C dX4_settleFormula_9 (by decide) (fun c1 => absurd c1 (by decide)) (fun c1 => ?_)
  refine v_iload_n C 1 rfl dX4_settleFormula_12 rfl ?_
  refine v_if_gt (tgt := 17) C dX4_settleFormula_13 (by decide) (fun c2 => ?_) (fun c2 => absurd ((nk_gt (a := dp + 1) (y := 0) 0 (by decide) (by omega) (by decide)).mpr (by omega)) c2)
  have c2 := (nk_gt (a := (dp + 1)) 0 (by decide) (by omega) (by decide)).mp c2
  refine v_aload_n C 0 rfl dX4_settleFormula_17 rfl ?_
  refine v_get (v := .ref (qN g a 3)) C F_X4_240 ha rfl dX4_settleFormula_18 ?_
  refine v_iload_n C 1 rfl dX4_settleFormula_21 rfl ?_
  refine v_iconst (v := 1) C dX4_settleFormula_22 (by decide) ?_
  refine v_isub C dX4_settleFormula_23 (v_eqi (y := (nI dp)) (nI_p1m1 dp) ?_)
  refine v_callS (rest := []) C (ih (qN g a 3) h hsc r3 hg3 hl3) S_X4_232 rfl rfl (by first | exact Nat.le_of_ble_eq_true rfl | (unfold rmm; dsimp only; omega)) ⟨(by first | exact Nat.le_of_ble_eq_true rfl | (unfold rmm; dsimp only; omega)), (by first | exact Nat.le_of_ble_eq_true rfl | (unfold rmm; dsimp only; omega))⟩ ⟨(by first | exact Nat.le_of_ble_eq_true rfl | (unfold rmm; dsimp only; omega)), (by first | exact Nat.le_of_ble_eq_true rfl | (unfold rmm; dsimp only; omega))⟩ dX4_settleFormula_24 (fun _ h4 w4 => ?_)
  obtain ⟨sf4, rc4⟩ := w4
  have ha4 := sf4.cell ha hra (by decide) (fun z => z)
  have sc4 := hsc.sf sf4 (fun z => z) (fun z => z) (fun _ z => z) (fun _ _ z => z)
  refine v_aload_n C 0 rfl dX4_settleFormula_27 rfl ?_
  refine v_get (v := .null) C F_X4_244 ha4 rfl dX4_settleFormula_28 ?_
  refine v_iload_n C 1 rfl dX4_settleFormula_31 rfl ?_
  refine v_iconst (v := 1) C dX4_settleFormula_32 (by decide) ?_
  refine v_isub C dX4_settleFormula_33 (v_eqi (y := (nI dp)) (nI_p1m1 dp) ?_)
  refine v_callS (rest := []) C (c_settle_null l hl G n dp h4 hn) S_X4_232 rfl rfl (by first | exact Nat.le_of_ble_eq_true rfl | (unfold rmm; dsimp only; omega)) ⟨(by first | exact Nat.le_of_ble_eq_true rfl | (unfold rmm; dsimp only; omega)), (by first | exact Nat.le_of_ble_eq_true rfl | (unfold rmm; dsimp only; omega))⟩ ⟨(by first | exact Nat.le_of_ble_eq_true rfl | (unfold rmm; dsimp only; omega)), (by first | exact Nat.le_of_ble_eq_true rfl | (unfold rmm; dsimp only; omega))⟩ dX4_settleFormula_34 (fun _ h6 q6 => ?_)
  subst q6
  refine v_iconst (v := 0) C dX4_settleFormula_37 (by decide) ?_
  refine v_istore_n C [(2, .int 0), (0, .ref a), (1, .int (nI (dp + 1)))] rfl (by decide) dX4_settleFormula_38 rfl ?_
  have sfa := sf4
  obtain ⟨m1, m2, m3, -, -, kd1, p1, c11, c12, hc1, -⟩ := sc4.2.2 _ r3
  obtain ⟨f1, hf1, hq1⟩ := rc4
  have n3 : (qN g a 3) ≠ (qN g a 0) := rne hrr r3 (by simp)
  have n3r : qN g (qN g a 3) 0 ≠ (qN g a 0) := row_ne hsc r3 hg3 na3 hrr
  have hval : ∀ q, q < 20 → syr f1 q 4 = rowOf A B (qT g a) q := fun q hq => by rw [htk, row_year m3]; exact syr_congr (fun z hz => hq1 z (by omega))
  obtain ⟨fr, hfr, -⟩ := sfa.2 _ f0 hrow (by rw [hrr])
  have L7 : ∀ (d : Nat) (q : Nat) (f3 : Nat → Int64) (h3 : zH), (q ≤ 20) → (h3 a = some (.inr (4, [.int (nI 6), .int (nI p), .ref (qN g a 3), .null, .int (nI (qL g a)), .int (gI (gtk (qT g a))), .ref (qN g a 1), .ref (qN g a 0)]))) → (h3 (qN g a 0) = some (cL G f3)) → (∀ b, b ≠ (qN g a 0) → h3 b = h4 b) → (∀ z, z < q → f3 z = rowOf A B (qT g a) z) → (21 ≤ q + d) → V zp l ze (rmm (n + 1) 0 0) zs zm zargs zbelow zmeth zc G 3 Q h3 (0 + 0 + 0) (0 + 0 + 0) 39 [(2, .int (nI q)), (0, .ref a), (1, .int (nI (dp + 1)))] [] := by
    intro d
    induction d with
    | zero =>
      intro q f3 h3 hq ka kr kF kf hd
      exact absurd hd (by omega)
    | succ d ih7 =>
      intro q f3 h3 hq ka kr kF kf hd
      refine v_iload_n C 0 rfl dX4_settleFormula_39 rfl ?_
      refine v_bipush (v := 20) C dX4_settleFormula_40 (by decide) ?_
      refine v_icmp_ge (tgt := 62) C dX4_settleFormula_42 (by decide) (fun c8 => ?_) (fun c8 => ?_)
      · have c8 := (nk_ge (a := q) 20 (by decide) (by omega) (by decide)).mp c8
        exact v_vret C hQ hr (Nat.le_of_ble_eq_true rfl) (Nat.le_of_ble_eq_true rfl) dX4_settleFormula_62 ⟨SF.row sfa hrow hrr hlen kr kF (fun z hz => kf z (by omega)), f3, kr, fun z hz => kf z (by omega)⟩
      · have c8 := (nk_ge_f (a := q) 20 (by decide) (by omega) (by decide)).mp c8
        refine v_aload_n C 1 rfl dX4_settleFormula_45 rfl ?_
        refine v_get (v := .ref (qN g a 0)) C F_X4_236 ka rfl dX4_settleFormula_46 ?_
        refine v_iload_n C 0 rfl dX4_settleFormula_49 rfl ?_
        refine v_aload_n C 1 rfl dX4_settleFormula_50 rfl ?_
        refine v_iload_n C 0 rfl dX4_settleFormula_51 rfl ?_
        refine v_callS (rest := [.int (nI q), .ref (qN g a 0)]) C (c_X4_valueMade_Y l hl G a (qN g a 3) (qN g (qN g a 3) 0) q f1 _ _ _ _ _ _ _ _ _ _ _ _ h3 ka (by rw [kF _ n3]; exact hc1) (by rw [kF _ n3r]; exact hf1) (by omega)) S_X4_247 rfl rfl (by first | exact Nat.le_of_ble_eq_true rfl | (unfold rmm; dsimp only; omega)) ⟨(by first | exact Nat.le_of_ble_eq_true rfl | (unfold rmm; dsimp only; omega)), (by first | exact Nat.le_of_ble_eq_true rfl | (unfold rmm; dsimp only; omega))⟩ ⟨(by first | exact Nat.le_of_ble_eq_true rfl | (unfold rmm; dsimp only; omega)), (by first | exact Nat.le_of_ble_eq_true rfl | (unfold rmm; dsimp only; omega))⟩ dX4_settleFormula_52 (fun l9 h9 q9 => ?_)
        obtain ⟨e9, rfl⟩ := q9; subst e9
        refine v_last C kr (vpin (by omega) (by decide)) dX4_settleFormula_55 (v_nw (fun h10 eh10 => ?_))
        have k11 : h10 a = some (.inr (4, [.int (nI 6), .int (nI p), .ref (qN g a 3), .null, .int (nI (qL g a)), .int (gI (gtk (qT g a))), .ref (qN g a 1), .ref (qN g a 0)])) := by rw [eh10, zup_ne _ _ (zne_lo kr ka)]; exact ka
        have k12 : h10 (qN g a 0) = some (.inl (gc G 1, 20, .inr (.inl (vp_updL f3 (nI q).toNatClampNeg (syr f1 q 4))))) := by rw [eh10]; exact zup_self _ _ _
        refine v_iinc C 0 [(2, .int (nI (q + 1))), (0, .ref a), (1, .int (nI (dp + 1)))] rfl (nI_inc q 1 (by decide)) rfl (by decide) dX4_settleFormula_56 ?_
        refine v_goto (tgt := 39) C dX4_settleFormula_59 (by decide) ?_
        refine v_lvp [0, 1, 2] rfl ?_
        exact ih7 (q + 1) _ h10 (by omega) k11 k12 (fun b hb => by rw [eh10, zup_ne _ _ hb]; exact kF b hb) (fun z hz => by
              rw [nI_clamp (by omega)]
              by_cases y : z = q
              · subst y; rw [pk_uLs]; exact hval _ (by omega)
              · rw [pk_uLn y]; exact kf z (by omega)) (by omega)
  refine v_lvp [0, 1, 2] rfl ?_
  exact L7 21 0 fr h4 (by decide) ha4 hfr (fun _ _ => rfl) (fun z hz => absurd hz (by omega)) (by omega)
theorem zMet.post {α : Type} {emb : α → Option Value} {l : Launch} {y : MethodName} {bytes : ByteArray} {maxL n mc ms : Nat} {ret : Option FieldType} {G : zG} {av : List Value} {h : zH} {Post Post2 : α → zH → Prop} (k : zMet emb l y bytes maxL ret n mc ms G av h Post) (hp : ∀ r h2, Post r h2 → Post2 r h2) : zMet emb l y bytes maxL ret n mc ms G av h Post2 := by
  have e : ∀ a s o t, zQ emb G Post a s o t → zQ emb G Post2 a s o t := fun a s o t q => by
    obtain ⟨⟨r, h2, q1, q2, q3⟩, q4⟩ := q
    exact ⟨⟨r, h2, q1, hp r h2 q2, q3⟩, q4⟩
  unfold zMet Met at k ⊢
  exact MetFree.mono k (fun _ _ q => q) (fun _ _ _ _ _ q => q) (fun _ _ _ _ _ q => ⟨e _ _ _ _ q.1, q.2⟩)
theorem c_settle (l : Launch) (hl : l.stackTraces = false) (G : zG) (g : XGh) (N : Nat) (tl : Nat → Nat) (A V : Nat → Nat → Int64) (i d : Nat) (hd : d ≤ 6) : SetI l G g N tl A V i (20 + d) d := by
  induction d with
  | zero =>
    intro a h hsc hra hga hla
    obtain ⟨l1, -⟩ := hsc.2.2 a hra
    omega
  | succ d ih =>
    intro a h hsc hra hga hla
    have ih := ih (by omega)
    obtain ⟨l1, l2, l3, l4, l5, kd, p, c1, c2, hc, hk⟩ := hsc.2.2 a hra
    rcases hk with hk | ⟨r1, ⟨f0, hf0⟩, e1, r3, hk⟩
    · have hk2 := hk
      obtain ⟨rfl, rfl, rfl, rfl, -⟩ := hk
      refine (c_settle_leaf l hl G (20 + (d + 1)) (d + 1) a _ _ _ _ _ _ _ h hc (by omega)).post (fun _ h2 q => ?_)
      subst q
      exact ⟨SF.rf, RC.leaf hsc hga hk2⟩
    · subst e1
      rcases hk with ⟨i1, rfl, rfl, i4, i5, i6⟩ | ⟨rfl, i2, rfl, i4, i5⟩ | ⟨rfl, rfl, rfl, i4, i5⟩
      · exact c_settle_J l hl G (20 + d) d a i N kd 0 f0 tl g A V h ih (by omega) (by omega) hsc hra hga hla hc r1 hf0 r3 i1 i4 i5 i6
      · exact c_settle_S l hl G (20 + d) d a i N 0 p f0 tl g A V h ih (by omega) (by omega) hsc hra hga hla hc r1 hf0 r3 i4 i5
      · exact c_settle_Y l hl G (20 + d) d a i N 0 0 f0 tl g A V h ih (by omega) (by omega) hsc hra hga hla hc r1 hf0 r3 i4 i5

def adS (a b c d e f g : Nat) : Nat → Nat := fun i => if i = 0 then a else if i = 1 then b else if i = 2 then c else if i = 3 then d else if i = 4 then e else if i = 5 then f else g
theorem fN_0 : fN (fun _ => 0) = fun _ => 0 := rfl
theorem role0 {g : XGh} {h3 hi : zH} {q : Nat} (hr : ∀ b, qR g b ≠ (0, 0) → ∃ e, h3 b = some e) (hk : ∀ b e, h3 b = some e → hi b = some e) (n : hi q = none) : qR g q = (0, 0) := Decidable.byContradiction (fun z => by
  obtain ⟨e, he⟩ := hr q z
  have := hk q e he
  rw [n] at this; cases this)
theorem rs_z0 {D : Nat → Int32} {T : Nat → List Tok} {lv : Nat → Nat} (hD : ∀ j, j < 60 → D j = -1) : RS z0 (fun _ => 0) (fun _ => 0) D (fun _ => 0) (fun _ => 0) (fun _ => 0) (fun _ => 0) T lv 0 0 := by
  refine ⟨⟨Nat.zero_le _, Nat.zero_le _, fun k hk => absurd hk (Nat.not_lt_zero _), fun _ _ _ _ => rfl, fun t ht => absurd ht (Nat.not_lt_zero _)⟩, fun i hi => absurd hi (Nat.not_lt_zero _), fun t ht => absurd ht (Nat.not_lt_zero _), ⟨fun t q ht => absurd ht (Nat.not_lt_zero _), fun t q _ h6 hq => hD _ (by omega)⟩, ⟨Nat.zero_le _, fun k hk => ⟨fun z => absurd z (Nat.not_lt_zero _), rfl, fun _ _ => ⟨rfl, rfl⟩, fun _ _ _ => ⟨rfl, rfl⟩⟩⟩, ⟨Nat.zero_le _, fun k hk => ⟨fun z => absurd z (Nat.not_lt_zero _), rfl, by show 0 ≤ (0 : Int32).toInt; decide, by show (0 : Int32).toInt ≤ ((0 : Nat) : Int); decide⟩⟩⟩
set_option maxHeartbeats 8000000 in
set_option maxRecDepth 100000 in
theorem law_start {zp : Program} {l : Launch} {ze : Env} {zs : State} {zm : MethodId} {zargs : Array Value} {zbelow : List Frame} {zmeth : Method} {zc : Code} {G : zG} (hl : l.stackTraces = false) (C : zOK zp l ze room_1 zs zm zargs zbelow zmeth zc G cL_law 29 RL) (hNc : zNc zs) {Q : State → Prop} {sb L0 : Nat} (hSc : zSc G sb L0 zs) (hL0 : L0 ≤ 260) (fin : ∀ (h2 : zH) (lv2 : List (Nat × Value)), V zp l ze room_1 zs zm zargs zbelow zmeth zc G 29 Q h2 670155 7091004 2320 lv2 [.int 1]) : V zp l ze room_1 zs zm zargs zbelow zmeth zc G 29 Q (fun _ => none) 0 0 0 [(0, .ref sb)] [] := by
  refine v_new C N_L_92 (Nat.le_of_ble_eq_true rfl) (Nat.le_of_ble_eq_true rfl) dL_law_0 (fun q1 gq1 nq1 => v_nw (fun h1 eh1 => ?_))
  have k2 : h1 q1 = some (.inr (7, [.null, .null, .null, .null, .null])) := by rw [eh1]; exact zup_self _ _ _
  refine v_dup C dL_law_3 rfl ?_
  refine v_callI (rest := [.ref q1]) C (c_X4_init l hl G q1 h1 k2) I_L_173 rfl rfl (Nat.le_of_ble_eq_true rfl) ⟨Nat.le_of_ble_eq_true rfl, Nat.le_of_ble_eq_true rfl⟩ ⟨Nat.le_of_ble_eq_true rfl, Nat.le_of_ble_eq_true rfl⟩ dL_law_4 (fun h3 w3 => ?_)
  obtain ⟨gx, xi, hr, kp1⟩ := w3
  have hr2 : ∀ b, qR gx b ≠ (0, 0) → ∃ e, h3 b = some e := fun b hb => by
    rcases hr b hb with rfl | ⟨-, y⟩
    · exact ⟨_, xi.1.1.1⟩
    · exact y
  refine v_astore_n C [(1, .ref q1), (0, .ref sb)] rfl (by decide) dL_law_7 rfl ?_
  refine v_bipush (v := 60) C dL_law_8 (by decide) ?_
  refine v_newa (atype := .int) (N := 60) (z := (60, .inl (fun _ => 0))) C 0 rfl rfl rfl AY_int (fun cA => rfl) (by decide) (by decide) (by decide) (Nat.le_of_ble_eq_true rfl) (Nat.le_of_ble_eq_true rfl) dL_law_10 (fun q4 gq4 nq4 => v_nw (fun h4 eh4 => ?_))
  have k5 : h4 q4 = some (.inl (gc G 0, 60, .inl (fun _ => 0))) := by rw [eh4]; exact zup_self _ _ _
  have ro0 := role0 hr2 (fun b e hb => hb) nq4
  have kc0 : ∀ b e, h3 b = some e → h4 b = some e := fun b e hb => by rw [eh4, zup_ne _ _ (zne_new nq4 ((fun b e hb => hb) b e hb))]; exact (fun b e hb => hb) b e hb
  refine v_astore_n C [(2, .ref q4), (1, .ref q1), (0, .ref sb)] rfl (by decide) dL_law_12 rfl ?_
  refine v_bipush (v := 60) C dL_law_13 (by decide) ?_
  refine v_newa (atype := .int) (N := 60) (z := (60, .inl (fun _ => 0))) C 0 rfl rfl rfl AY_int (fun cA => rfl) (by decide) (by decide) (by decide) (Nat.le_of_ble_eq_true rfl) (Nat.le_of_ble_eq_true rfl) dL_law_15 (fun q6 gq6 nq6 => v_nw (fun h6 eh6 => ?_))
  have k7 : h6 q4 = some (.inl (gc G 0, 60, .inl (fun _ => 0))) := by rw [eh6, zup_ne _ _ (zne_new nq6 k5)]; exact k5
  have k8 : h6 q6 = some (.inl (gc G 0, 60, .inl (fun _ => 0))) := by rw [eh6]; exact zup_self _ _ _
  have ro1 := role0 hr2 kc0 nq6
  have kc1 : ∀ b e, h3 b = some e → h6 b = some e := fun b e hb => by rw [eh6, zup_ne _ _ (zne_new nq6 (kc0 b e hb))]; exact kc0 b e hb
  refine v_astore_n C [(3, .ref q6), (2, .ref q4), (1, .ref q1), (0, .ref sb)] rfl (by decide) dL_law_17 rfl ?_
  refine v_bipush (v := 60) C dL_law_18 (by decide) ?_
  refine v_newa (atype := .int) (N := 60) (z := (60, .inl (fun _ => 0))) C 0 rfl rfl rfl AY_int (fun cA => rfl) (by decide) (by decide) (by decide) (Nat.le_of_ble_eq_true rfl) (Nat.le_of_ble_eq_true rfl) dL_law_20 (fun q9 gq9 nq9 => v_nw (fun h9 eh9 => ?_))
  have k10 : h9 q4 = some (.inl (gc G 0, 60, .inl (fun _ => 0))) := by rw [eh9, zup_ne _ _ (zne_new nq9 k7)]; exact k7
  have k11 : h9 q6 = some (.inl (gc G 0, 60, .inl (fun _ => 0))) := by rw [eh9, zup_ne _ _ (zne_new nq9 k8)]; exact k8
  have k12 : h9 q9 = some (.inl (gc G 0, 60, .inl (fun _ => 0))) := by rw [eh9]; exact zup_self _ _ _
  have ro2 := role0 hr2 kc1 nq9
  have kc2 : ∀ b e, h3 b = some e → h9 b = some e := fun b e hb => by rw [eh9, zup_ne _ _ (zne_new nq9 (kc1 b e hb))]; exact kc1 b e hb
  refine v_astore C [(4, .ref q9), (3, .ref q6), (2, .ref q4), (1, .ref q1), (0, .ref sb)] rfl (by decide) dL_law_22 ?_
  refine v_bipush (v := 6) C dL_law_24 (by decide) ?_
  refine v_newa (atype := .int) (N := 6) (z := (6, .inl (fun _ => 0))) C 0 rfl rfl rfl AY_int (fun cA => rfl) (by decide) (by decide) (by decide) (Nat.le_of_ble_eq_true rfl) (Nat.le_of_ble_eq_true rfl) dL_law_26 (fun q13 gq13 nq13 => v_nw (fun h13 eh13 => ?_))
  have k14 : h13 q4 = some (.inl (gc G 0, 60, .inl (fun _ => 0))) := by rw [eh13, zup_ne _ _ (zne_new nq13 k10)]; exact k10
  have k15 : h13 q6 = some (.inl (gc G 0, 60, .inl (fun _ => 0))) := by rw [eh13, zup_ne _ _ (zne_new nq13 k11)]; exact k11
  have k16 : h13 q9 = some (.inl (gc G 0, 60, .inl (fun _ => 0))) := by rw [eh13, zup_ne _ _ (zne_new nq13 k12)]; exact k12
  have k17 : h13 q13 = some (.inl (gc G 0, 6, .inl (fun _ => 0))) := by rw [eh13]; exact zup_self _ _ _
  have ro3 := role0 hr2 kc2 nq13
  have kc3 : ∀ b e, h3 b = some e → h13 b = some e := fun b e hb => by rw [eh13, zup_ne _ _ (zne_new nq13 (kc2 b e hb))]; exact kc2 b e hb
  refine v_astore C [(5, .ref q13), (4, .ref q9), (3, .ref q6), (2, .ref q4), (1, .ref q1), (0, .ref sb)] rfl (by decide) dL_law_28 ?_
  refine v_bipush (v := 64) C dL_law_30 (by decide) ?_
  refine v_newa (atype := .int) (N := 64) (z := (64, .inl (fun _ => 0))) C 0 rfl rfl rfl AY_int (fun cA => rfl) (by decide) (by decide) (by decide) (Nat.le_of_ble_eq_true rfl) (Nat.le_of_ble_eq_true rfl) dL_law_32 (fun q18 gq18 nq18 => v_nw (fun h18 eh18 => ?_))
  have k19 : h18 q4 = some (.inl (gc G 0, 60, .inl (fun _ => 0))) := by rw [eh18, zup_ne _ _ (zne_new nq18 k14)]; exact k14
  have k20 : h18 q6 = some (.inl (gc G 0, 60, .inl (fun _ => 0))) := by rw [eh18, zup_ne _ _ (zne_new nq18 k15)]; exact k15
  have k21 : h18 q9 = some (.inl (gc G 0, 60, .inl (fun _ => 0))) := by rw [eh18, zup_ne _ _ (zne_new nq18 k16)]; exact k16
  have k22 : h18 q13 = some (.inl (gc G 0, 6, .inl (fun _ => 0))) := by rw [eh18, zup_ne _ _ (zne_new nq18 k17)]; exact k17
  have k23 : h18 q18 = some (.inl (gc G 0, 64, .inl (fun _ => 0))) := by rw [eh18]; exact zup_self _ _ _
  have ro4 := role0 hr2 kc3 nq18
  have kc4 : ∀ b e, h3 b = some e → h18 b = some e := fun b e hb => by rw [eh18, zup_ne _ _ (zne_new nq18 (kc3 b e hb))]; exact kc3 b e hb
  refine v_astore C [(6, .ref q18), (5, .ref q13), (4, .ref q9), (3, .ref q6), (2, .ref q4), (1, .ref q1), (0, .ref sb)] rfl (by decide) dL_law_34 ?_
  refine v_bipush (v := 8) C dL_law_36 (by decide) ?_
  refine v_newa (atype := .int) (N := 8) (z := (8, .inl (fun _ => 0))) C 0 rfl rfl rfl AY_int (fun cA => rfl) (by decide) (by decide) (by decide) (Nat.le_of_ble_eq_true rfl) (Nat.le_of_ble_eq_true rfl) dL_law_38 (fun q24 gq24 nq24 => v_nw (fun h24 eh24 => ?_))
  have k25 : h24 q4 = some (.inl (gc G 0, 60, .inl (fun _ => 0))) := by rw [eh24, zup_ne _ _ (zne_new nq24 k19)]; exact k19
  have k26 : h24 q6 = some (.inl (gc G 0, 60, .inl (fun _ => 0))) := by rw [eh24, zup_ne _ _ (zne_new nq24 k20)]; exact k20
  have k27 : h24 q9 = some (.inl (gc G 0, 60, .inl (fun _ => 0))) := by rw [eh24, zup_ne _ _ (zne_new nq24 k21)]; exact k21
  have k28 : h24 q13 = some (.inl (gc G 0, 6, .inl (fun _ => 0))) := by rw [eh24, zup_ne _ _ (zne_new nq24 k22)]; exact k22
  have k29 : h24 q18 = some (.inl (gc G 0, 64, .inl (fun _ => 0))) := by rw [eh24, zup_ne _ _ (zne_new nq24 k23)]; exact k23
  have k30 : h24 q24 = some (.inl (gc G 0, 8, .inl (fun _ => 0))) := by rw [eh24]; exact zup_self _ _ _
  have ro5 := role0 hr2 kc4 nq24
  have kc5 : ∀ b e, h3 b = some e → h24 b = some e := fun b e hb => by rw [eh24, zup_ne _ _ (zne_new nq24 (kc4 b e hb))]; exact kc4 b e hb
  refine v_astore C [(7, .ref q24), (6, .ref q18), (5, .ref q13), (4, .ref q9), (3, .ref q6), (2, .ref q4), (1, .ref q1), (0, .ref sb)] rfl (by decide) dL_law_40 ?_
  refine v_bipush (v := 8) C dL_law_42 (by decide) ?_
  refine v_newa (atype := .int) (N := 8) (z := (8, .inl (fun _ => 0))) C 0 rfl rfl rfl AY_int (fun cA => rfl) (by decide) (by decide) (by decide) (Nat.le_of_ble_eq_true rfl) (Nat.le_of_ble_eq_true rfl) dL_law_44 (fun q31 gq31 nq31 => v_nw (fun h31 eh31 => ?_))
  have k32 : h31 q4 = some (.inl (gc G 0, 60, .inl (fun _ => 0))) := by rw [eh31, zup_ne _ _ (zne_new nq31 k25)]; exact k25
  have k33 : h31 q6 = some (.inl (gc G 0, 60, .inl (fun _ => 0))) := by rw [eh31, zup_ne _ _ (zne_new nq31 k26)]; exact k26
  have k34 : h31 q9 = some (.inl (gc G 0, 60, .inl (fun _ => 0))) := by rw [eh31, zup_ne _ _ (zne_new nq31 k27)]; exact k27
  have k35 : h31 q13 = some (.inl (gc G 0, 6, .inl (fun _ => 0))) := by rw [eh31, zup_ne _ _ (zne_new nq31 k28)]; exact k28
  have k36 : h31 q18 = some (.inl (gc G 0, 64, .inl (fun _ => 0))) := by rw [eh31, zup_ne _ _ (zne_new nq31 k29)]; exact k29
  have k37 : h31 q24 = some (.inl (gc G 0, 8, .inl (fun _ => 0))) := by rw [eh31, zup_ne _ _ (zne_new nq31 k30)]; exact k30
  have k38 : h31 q31 = some (.inl (gc G 0, 8, .inl (fun _ => 0))) := by rw [eh31]; exact zup_self _ _ _
  have ro6 := role0 hr2 kc5 nq31
  have kc6 : ∀ b e, h3 b = some e → h31 b = some e := fun b e hb => by rw [eh31, zup_ne _ _ (zne_new nq31 (kc5 b e hb))]; exact kc5 b e hb
  refine v_astore C [(8, .ref q31), (7, .ref q24), (6, .ref q18), (5, .ref q13), (4, .ref q9), (3, .ref q6), (2, .ref q4), (1, .ref q1), (0, .ref sb)] rfl (by decide) dL_law_46 ?_
  refine v_iconst (v := 0) C dL_law_48 (by decide) ?_
  refine v_istore C [(9, .int 0), (8, .ref q31), (7, .ref q24), (6, .ref q18), (5, .ref q13), (4, .ref q9), (3, .ref q6), (2, .ref q4), (1, .ref q1), (0, .ref sb)] rfl (by decide) dL_law_49 ?_
  refine v_iconst (v := 0) C dL_law_51 (by decide) ?_
  refine v_istore C [(10, .int 0), (9, .int 0), (8, .ref q31), (7, .ref q24), (6, .ref q18), (5, .ref q13), (4, .ref q9), (3, .ref q6), (2, .ref q4), (1, .ref q1), (0, .ref sb)] rfl (by decide) dL_law_52 ?_
  refine v_iconst (v := 0) C dL_law_54 (by decide) ?_
  refine v_istore C [(11, .int 0), (10, .int 0), (9, .int 0), (8, .ref q31), (7, .ref q24), (6, .ref q18), (5, .ref q13), (4, .ref q9), (3, .ref q6), (2, .ref q4), (1, .ref q1), (0, .ref sb)] rfl (by decide) dL_law_55 ?_
  refine v_iconst (v := 0) C dL_law_57 (by decide) ?_
  refine v_istore C [(12, .int 0), (11, .int 0), (10, .int 0), (9, .int 0), (8, .ref q31), (7, .ref q24), (6, .ref q18), (5, .ref q13), (4, .ref q9), (3, .ref q6), (2, .ref q4), (1, .ref q1), (0, .ref sb)] rfl (by decide) dL_law_58 ?_
  refine v_iconst (v := 0) C dL_law_60 (by decide) ?_
  refine v_istore C [(13, .int 0), (12, .int 0), (11, .int 0), (10, .int 0), (9, .int 0), (8, .ref q31), (7, .ref q24), (6, .ref q18), (5, .ref q13), (4, .ref q9), (3, .ref q6), (2, .ref q4), (1, .ref q1), (0, .ref sb)] rfl (by decide) dL_law_61 ?_
  refine v_iconst (v := 0) C dL_law_63 (by decide) ?_
  refine v_istore C [(14, .int 0), (13, .int 0), (12, .int 0), (11, .int 0), (10, .int 0), (9, .int 0), (8, .ref q31), (7, .ref q24), (6, .ref q18), (5, .ref q13), (4, .ref q9), (3, .ref q6), (2, .ref q4), (1, .ref q1), (0, .ref sb)] rfl (by decide) dL_law_64 ?_
  have ne01 : q4 ≠ q6 := zne_new nq6 k5
  have ne02 : q4 ≠ q9 := zne_new nq9 k7
  have ne12 : q6 ≠ q9 := zne_new nq9 k8
  have ne03 : q4 ≠ q13 := zne_new nq13 k10
  have ne13 : q6 ≠ q13 := zne_new nq13 k11
  have ne23 : q9 ≠ q13 := zne_new nq13 k12
  have ne04 : q4 ≠ q18 := zne_new nq18 k14
  have ne14 : q6 ≠ q18 := zne_new nq18 k15
  have ne24 : q9 ≠ q18 := zne_new nq18 k16
  have ne34 : q13 ≠ q18 := zne_new nq18 k17
  have ne05 : q4 ≠ q24 := zne_new nq24 k19
  have ne15 : q6 ≠ q24 := zne_new nq24 k20
  have ne25 : q9 ≠ q24 := zne_new nq24 k21
  have ne35 : q13 ≠ q24 := zne_new nq24 k22
  have ne45 : q18 ≠ q24 := zne_new nq24 k23
  have ne06 : q4 ≠ q31 := zne_new nq31 k25
  have ne16 : q6 ≠ q31 := zne_new nq31 k26
  have ne26 : q9 ≠ q31 := zne_new nq31 k27
  have ne36 : q13 ≠ q31 := zne_new nq31 k28
  have ne46 : q18 ≠ q31 := zne_new nq31 k29
  have ne56 : q24 ≠ q31 := zne_new nq31 k30
  obtain ⟨ad, had⟩ : ∃ ad, ad = adS q4 q6 q9 q13 q18 q24 q31 := ⟨_, rfl⟩
  have lw0 : LW G h31 gx ad (fun _ => 0) (fun _ => 0) (fun _ => 0) (fun _ => 0) (fun _ => 0) (fun _ => 0) (fun _ => 0) := by
    rw [had]
    refine ⟨⟨k32, k33, k34, k35, k36, k37, k38⟩, fun i hi => ?_, fun i j hi hj hij => ?_⟩
    · have z : i = 0 ∨ i = 1 ∨ i = 2 ∨ i = 3 ∨ i = 4 ∨ i = 5 ∨ i = 6 := by omega
      rcases z with rfl | rfl | rfl | rfl | rfl | rfl | rfl
      · exact ro0
      · exact ro1
      · exact ro2
      · exact ro3
      · exact ro4
      · exact ro5
      · exact ro6
    · have z : i = 0 ∨ i = 1 ∨ i = 2 ∨ i = 3 ∨ i = 4 ∨ i = 5 ∨ i = 6 := by omega
      have y : j = 0 ∨ j = 1 ∨ j = 2 ∨ j = 3 ∨ j = 4 ∨ j = 5 ∨ j = 6 := by omega
      rcases z with rfl | rfl | rfl | rfl | rfl | rfl | rfl <;> rcases y with rfl | rfl | rfl | rfl | rfl | rfl | rfl
      · exact rfl
      · exact absurd hij ne01
      · exact absurd hij ne02
      · exact absurd hij ne03
      · exact absurd hij ne04
      · exact absurd hij ne05
      · exact absurd hij ne06
      · exact absurd (Eq.symm hij) ne01
      · exact rfl
      · exact absurd hij ne12
      · exact absurd hij ne13
      · exact absurd hij ne14
      · exact absurd hij ne15
      · exact absurd hij ne16
      · exact absurd (Eq.symm hij) ne02
      · exact absurd (Eq.symm hij) ne12
      · exact rfl
      · exact absurd hij ne23
      · exact absurd hij ne24
      · exact absurd hij ne25
      · exact absurd hij ne26
      · exact absurd (Eq.symm hij) ne03
      · exact absurd (Eq.symm hij) ne13
      · exact absurd (Eq.symm hij) ne23
      · exact rfl
      · exact absurd hij ne34
      · exact absurd hij ne35
      · exact absurd hij ne36
      · exact absurd (Eq.symm hij) ne04
      · exact absurd (Eq.symm hij) ne14
      · exact absurd (Eq.symm hij) ne24
      · exact absurd (Eq.symm hij) ne34
      · exact rfl
      · exact absurd hij ne45
      · exact absurd hij ne46
      · exact absurd (Eq.symm hij) ne05
      · exact absurd (Eq.symm hij) ne15
      · exact absurd (Eq.symm hij) ne25
      · exact absurd (Eq.symm hij) ne35
      · exact absurd (Eq.symm hij) ne45
      · exact rfl
      · exact absurd hij ne56
      · exact absurd (Eq.symm hij) ne06
      · exact absurd (Eq.symm hij) ne16
      · exact absurd (Eq.symm hij) ne26
      · exact absurd (Eq.symm hij) ne36
      · exact absurd (Eq.symm hij) ne46
      · exact absurd (Eq.symm hij) ne56
      · exact rfl
  have xi0 : XI G h31 gx q1 z0 := xi.keep (fun b e hb _ => kc6 b e hb)
  refine v_lvp (lv2 := [(14, .int 0), (13, .int 0), (12, .int 0), (11, .int 0), (10, .int 0), (9, .int 0), (8, .ref (ad 6)), (7, .ref (ad 5)), (6, .ref (ad 4)), (5, .ref (ad 3)), (4, .ref (ad 2)), (3, .ref (ad 1)), (2, .ref (ad 0)), (1, .ref q1), (0, .ref sb)]) [0, 1, 2, 3, 4, 5, 6, 7, 8, 9, 10, 11, 12, 13, 14] (by rw [had]; rfl) ?_
  have L39 : ∀ (d : Nat) (i : Nat) (D3 : Nat → Int32) (h2 : zH), (i ≤ 60) → (XI G h2 gx q1 z0) → (LW G h2 gx ad (fun _ => 0) (fun _ => 0) D3 (fun _ => 0) (fun _ => 0) (fun _ => 0) (fun _ => 0)) → (∀ j, j < i → D3 j = -1) → (60 < i + d) → V zp l ze room_1 zs zm zargs zbelow zmeth zc G 29 Q h2 (0 + 1 + 12 + 1 + 1 + 1 + 1 + 1 + 1 + 1) (0 + 5 + 200 + 60 + 60 + 60 + 6 + 64 + 8 + 8) 66 [(14, .int (nI i)), (13, .int 0), (12, .int 0), (11, .int 0), (10, .int 0), (9, .int 0), (8, .ref (ad 6)), (7, .ref (ad 5)), (6, .ref (ad 4)), (5, .ref (ad 3)), (4, .ref (ad 2)), (3, .ref (ad 1)), (2, .ref (ad 0)), (1, .ref q1), (0, .ref sb)] [] := by
    intro d
    induction d with
    | zero =>
      intro i D3 h2 hi60 xi2 lw2 hd3 hd
      exact absurd hd (by omega)
    | succ d ih39 =>
      intro i D3 h2 hi60 xi2 lw2 hd3 hd
      refine v_iload C 0 rfl dL_law_66 ?_
      refine v_bipush (v := 60) C dL_law_68 (by decide) ?_
      refine v_icmp_ge (tgt := 85) C dL_law_70 (by decide) (fun c40 => ?_) (fun c40 => ?_)
      · have c40 := (nk_ge (a := i) 60 (by decide) (by omega) (by decide)).mp c40
        refine v_iconst (v := 0) C dL_law_85 (by decide) ?_
        refine v_istore C [(14, .int 0), (13, .int 0), (12, .int 0), (11, .int 0), (10, .int 0), (9, .int 0), (8, .ref (ad 6)), (7, .ref (ad 5)), (6, .ref (ad 4)), (5, .ref (ad 3)), (4, .ref (ad 2)), (3, .ref (ad 1)), (2, .ref (ad 0)), (1, .ref q1), (0, .ref sb)] rfl (by decide) dL_law_86 ?_
        refine v_lvp [0, 1, 2, 3, 4, 5, 6, 7, 8, 9, 10, 11, 12, 13, 14] rfl ?_
        exact v_widen (by omega) (by omega) (law_loop hl C hNc hSc hL0 fin 60 0 h2 gx z0 (fun _ => 0) (fun _ => 0) D3 (fun _ => 0) (fun _ => 0) (fun _ => 0) (fun _ => 0) (fun _ => []) (fun _ => 0) 0 rfl ⟨xi2, wf_z0, lw2, rs_z0 (fun j hj => hd3 j (by omega))⟩)
      · have c40 := (nk_ge_f (a := i) 60 (by decide) (by omega) (by decide)).mp c40
        refine v_aload C 10 rfl dL_law_73 ?_
        refine v_iload C 0 rfl dL_law_75 ?_
        refine v_iconst (v := (-1)) C dL_law_77 (by decide) ?_
        refine v_iast C (lw2.1.2.2.1) (vpin (show i < 60 by omega) (by decide)) dL_law_78 (v_nw (fun h41 eh41 => ?_))
        have lw41 := lw2.p2 (i := i) (y := (-1)) (by omega) eh41
        have xi41 := lw2.xi xi2 (i := 2) (by decide) eh41
        refine v_iinc C 0 [(14, .int (nI (i + 1))), (13, .int 0), (12, .int 0), (11, .int 0), (10, .int 0), (9, .int 0), (8, .ref (ad 6)), (7, .ref (ad 5)), (6, .ref (ad 4)), (5, .ref (ad 3)), (4, .ref (ad 2)), (3, .ref (ad 1)), (2, .ref (ad 0)), (1, .ref q1), (0, .ref sb)] rfl (nI_inc i 1 (by decide)) rfl (by decide) dL_law_79 ?_
        refine v_goto (tgt := 66) C dL_law_82 (by decide) ?_
        refine v_lvp [0, 1, 2, 3, 4, 5, 6, 7, 8, 9, 10, 11, 12, 13, 14] rfl ?_
        exact ih39 (i + 1) _ h41 (by omega) xi41 lw41 (fun j hj => by
              by_cases y : j = i
              · subst y; exact up2_s
              · exact (up2_n (by omega)).trans (hd3 j (by omega))) (by omega)
  refine v_lvp [0, 1, 2, 3, 4, 5, 6, 7, 8, 9, 10, 11, 12, 13, 14] rfl ?_
  exact L39 61 0 _ h31 (Nat.zero_le _) xi0 lw0 (fun j hj => absurd hj (Nat.not_lt_zero _)) (by omega)

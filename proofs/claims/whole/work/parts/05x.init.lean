/-! THE MODEL's start -/
def KA (m : Nat) (h0 h : zH) (L : List (Nat × va_E)) : Prop := (∀ p ∈ L, h p.1 = some p.2) ∧ (L.map Prod.fst).Nodup ∧ m ∉ L.map Prod.fst ∧ (∀ p ∈ L, h0 p.1 = none) ∧ zKp (fun b => b = m) h0 h ∧ ∃ e, h m = some e
theorem KA.nil {m : Nat} {h : zH} {e : va_E} (hm : h m = some e) : KA m h h [] := ⟨fun p hp => absurd hp List.not_mem_nil, List.Pairwise.nil, fun hp => absurd hp List.not_mem_nil, fun p hp => absurd hp List.not_mem_nil, zk_rf _ _, e, hm⟩
theorem KA.key {m : Nat} {h0 h : zH} {L : List (Nat × va_E)} (k : KA m h0 h L) {a : Nat} (ha : a ∈ L.map Prod.fst) : ∃ e, h a = some e := by
  obtain ⟨p, hp, rfl⟩ := List.mem_map.mp ha
  exact ⟨_, k.1 p hp⟩
theorem KA.new {m q : Nat} {h0 h h2 : zH} {e : va_E} {L : List (Nat × va_E)} (k : KA m h0 h L) (eh : h2 = zup h q e) (hn : h q = none) : KA m h0 h2 ((q, e) :: L) := by
  obtain ⟨k1, k2, k3, k4, k5, em, k6⟩ := id k
  have hqm : q ≠ m := fun z => by rw [z, k6] at hn; cases hn
  have hqL : q ∉ L.map Prod.fst := fun z => by
    obtain ⟨e2, h3⟩ := k.key z
    rw [hn] at h3; cases h3
  refine ⟨fun p hp => ?_, List.nodup_cons.mpr ⟨hqL, k2⟩, fun z => ?_, fun p hp => ?_, zk_new k5 eh hn, em, by rw [eh, zup_ne _ _ hqm.symm]; exact k6⟩
  · rcases List.mem_cons.mp hp with rfl | hp
    · rw [eh, zup_self]
    · rw [eh, zup_ne _ _ (fun z => hqL (by rw [← z]; exact List.mem_map.mpr ⟨p, hp, rfl⟩))]; exact k1 p hp
  · rcases List.mem_cons.mp z with z | z
    · exact hqm z.symm
    · exact k3 z
  · rcases List.mem_cons.mp hp with rfl | hp
    · cases hh : h0 q with
      | none => rfl
      | some x => have := k5 q x hqm hh; rw [hn] at this; cases this
    · exact k4 p hp
theorem KA.put {m : Nat} {h0 h h2 : zH} {e : va_E} {L : List (Nat × va_E)} (k : KA m h0 h L) (eh : h2 = zup h m e) : KA m h0 h2 L := by
  obtain ⟨k1, k2, k3, k4, k5, em, k6⟩ := k
  refine ⟨fun p hp => ?_, k2, k3, k4, zk_put k5 eh rfl, e, by rw [eh, zup_self]⟩
  rw [eh, zup_ne _ _ (fun z => k3 (by rw [← z]; exact List.mem_map.mpr ⟨p, hp, rfl⟩))]; exact k1 p hp
theorem getD_memN {L : List Nat} {j : Nat} (h : j < L.length) : L.getD j 0 ∈ L := by
  rw [List.getD_eq_getElem?_getD, List.getElem?_eq_getElem h]; exact List.getElem_mem h
theorem nd_ne {L : List Nat} (h : L.Nodup) {i j : Nat} (hi : i < L.length) (hj : j < L.length) (hne : i ≠ j) : L.getD i 0 ≠ L.getD j 0 := by
  induction L generalizing i j with
  | nil => exact absurd hi (Nat.not_lt_zero _)
  | cons a L ih =>
    obtain ⟨h1, h2⟩ := List.nodup_cons.mp h
    have l : (a :: L).length = L.length + 1 := rfl
    cases i with
    | zero =>
      cases j with
      | zero => exact absurd rfl hne
      | succ j => exact fun e => h1 (by have e' : a = L.getD j 0 := e; rw [e']; exact getD_memN (by omega))
    | succ i =>
      cases j with
      | zero => exact fun e => h1 (by have e' : L.getD i 0 = a := e; rw [← e']; exact getD_memN (by omega))
      | succ j => exact ih h2 (by omega) (by omega) (by omega)
def mArr (k : Nat) : Bool := mNat k || mInt k || mLng k
def posL (k : Nat) : Nat := if k = 1 then 23 else if k = 3 then 22 else if k = 4 then 21 else if k = 5 then 20 else if k = 6 then 19 else if k = 8 then 18 else if k = 9 then 17 else if k = 10 then 16 else if k = 11 then 15 else if k = 12 then 14 else if k = 13 then 13 else if k = 14 then 12 else if k = 16 then 11 else if k = 18 then 10 else if k = 19 then 9 else if k = 20 then 8 else if k = 21 then 7 else if k = 22 then 6 else if k = 23 then 5 else if k = 24 then 4 else if k = 26 then 3 else if k = 27 then 2 else if k = 28 then 1 else if k = 29 then 0 else 0
def adL (L : List Nat) : Nat → Nat := fun k => if mArr k = true then L.getD (posL k) 0 else L.sum + 1 + k
theorem getD_sum (L : List Nat) (i : Nat) : L.getD i 0 ≤ L.sum := by
  induction L generalizing i with
  | nil => exact Nat.zero_le _
  | cons a L ih =>
    cases i with
    | zero => show a ≤ (a :: L).sum; rw [List.sum_cons]; omega
    | succ i => have := ih i; show L.getD i 0 ≤ (a :: L).sum; rw [List.sum_cons]; omega
theorem posL_ok : ∀ i, i < 30 → mArr i = true → posL i < 24 := by decide +kernel
theorem posL_inj : ∀ i, i < 30 → ∀ j, j < 30 → mArr i = true → mArr j = true → posL i = posL j → i = j := by decide +kernel
theorem adL_inj {L : List Nat} (hnd : L.Nodup) (hl : L.length = 24) : ∀ i j, i < 30 → j < 30 → adL L i = adL L j → i = j := fun i j hi hj e => by
  unfold adL at e
  by_cases ai : mArr i = true
  · by_cases aj : mArr j = true
    · rw [if_pos ai, if_pos aj] at e
      have pi := posL_ok i hi ai
      have pj := posL_ok j hj aj
      by_cases q : posL i = posL j
      · exact posL_inj i hi j hj ai aj q
      · exact absurd e (nd_ne hnd (by omega) (by omega) q)
    · rw [if_pos ai, if_neg aj] at e
      have := getD_sum L (posL i); omega
  · by_cases aj : mArr j = true
    · rw [if_neg ai, if_pos aj] at e
      have := getD_sum L (posL j); omega
    · rw [if_neg ai, if_neg aj] at e; omega
theorem MS0 {f2 f3 : Nat → Int32} (h2 : ∀ j, j < 120 → f2 j = -1) (h3 : ∀ j, j < 6 → f3 j = -1) : MS z0 (fun _ => 0) (fun _ _ => 0) (up2 (up2 (fun _ _ => 0) 20 f2) 21 f3) (fun _ _ => 0) := by
  refine ⟨fun a q ha hq => rfl, ⟨rfl, fun i hi => absurd hi (Nat.not_lt_zero _)⟩, ⟨rfl, fun t _ => rfl, fun t q ht hq => ⟨rfl, fun j hj => absurd hj (Nat.not_lt_zero _)⟩⟩, ⟨rfl, fun r hr => ⟨rfl, rfl, h3 r hr, rfl, fun q hq => ⟨h2 _ (by omega), rfl, rfl⟩⟩⟩, ⟨rfl, fun b hb => ⟨rfl, rfl, rfl, rfl⟩⟩⟩
set_option maxHeartbeats 40000000 in
set_option maxRecDepth 100000 in
theorem c_X5_init (l : Launch) (hl : l.stackTraces = false) (G : zG) (m : Nat) (h : zH) (h0m : h m = some (.inr (8, [.int 0, .null, .int 0, .null, .null, .null, .null, .int 0, .null, .null, .null, .null, .null, .null, .null, .int 0, .null, .int 0, .null, .null, .null, .null, .null, .null, .null, .int 0, .null, .null, .null, .null]))) : zMet eV l yX5_init cX5_init 2 none 12 24 40000 G [.ref m] h (fun _ h2 => ∃ ad, MO G h2 h2 m ad z0 0 ∧ (∀ k, k < 30 → mArr k = true → h (ad k) = none) ∧ zKp (fun b => b = m) h h2) := by
  refine con_of hl RX5 rfl (by decide +kernel) [(0, .ref m)] rfl (Nat.le_of_ble_eq_true rfl) ?_
  intro zp ze zs zm zargs zbelow zmeth zc C hr hin Q hQ
  have KA_0 := KA.nil h0m
  refine v_aload_n C 0 rfl dX5_init_0 rfl ?_
  refine v_objInit C O_X5_1 (Nat.le_of_ble_eq_true rfl) (Nat.le_of_ble_eq_true rfl) dX5_init_1 ?_
  refine v_aload_n C 0 rfl dX5_init_4 rfl ?_
  refine v_bipush (v := 120) C dX5_init_5 (by decide) ?_
  refine v_newa (atype := .int) (N := 120) (z := (120, .inl (fun _ => 0))) C 0 rfl rfl rfl AY_int (fun cA => rfl) (by decide) (by decide) (by decide) (Nat.le_of_ble_eq_true rfl) (Nat.le_of_ble_eq_true rfl) dX5_init_7 (fun q1 gq1 nq1 => v_nw (fun h1 eh1 => ?_))
  have k2 : h1 m = some (.inr (8, [.int 0, .null, .int 0, .null, .null, .null, .null, .int 0, .null, .null, .null, .null, .null, .null, .null, .int 0, .null, .int 0, .null, .null, .null, .null, .null, .null, .null, .int 0, .null, .null, .null, .null])) := by rw [eh1, zup_ne _ _ (zne_new nq1 h0m)]; exact h0m
  have k3 : h1 q1 = some (.inl (gc G 0, 120, .inl (fun _ => 0))) := by rw [eh1]; exact zup_self _ _ _
  have KA_h1 := KA_0.new eh1 nq1
  refine v_putF C [.int 0, .ref q1, .int 0, .null, .null, .null, .null, .int 0, .null, .null, .null, .null, .null, .null, .null, .int 0, .null, .int 0, .null, .null, .null, .null, .null, .null, .null, .int 0, .null, .null, .null, .null] P_X5_7 hin k2 rfl rfl rfl (Nat.le_of_ble_eq_true rfl) dX5_init_9 (v_nw (fun h4 eh4 => ?_))
  have k5 : h4 m = some (.inr (8, [.int 0, .ref q1, .int 0, .null, .null, .null, .null, .int 0, .null, .null, .null, .null, .null, .null, .null, .int 0, .null, .int 0, .null, .null, .null, .null, .null, .null, .null, .int 0, .null, .null, .null, .null])) := by rw [eh4]; exact zup_self _ _ _
  have KA_h4 := KA_h1.put eh4
  refine v_aload_n C 0 rfl dX5_init_12 rfl ?_
  refine v_bipush (v := 8) C dX5_init_13 (by decide) ?_
  refine v_newa (atype := .int) (N := 8) (z := (8, .inl (fun _ => 0))) C 0 rfl rfl rfl AY_int (fun cA => rfl) (by decide) (by decide) (by decide) (Nat.le_of_ble_eq_true rfl) (Nat.le_of_ble_eq_true rfl) dX5_init_15 (fun q6 gq6 nq6 => v_nw (fun h6 eh6 => ?_))
  have k7 : h6 m = some (.inr (8, [.int 0, .ref q1, .int 0, .null, .null, .null, .null, .int 0, .null, .null, .null, .null, .null, .null, .null, .int 0, .null, .int 0, .null, .null, .null, .null, .null, .null, .null, .int 0, .null, .null, .null, .null])) := by rw [eh6, zup_ne _ _ (zne_new nq6 k5)]; exact k5
  have k8 : h6 q6 = some (.inl (gc G 0, 8, .inl (fun _ => 0))) := by rw [eh6]; exact zup_self _ _ _
  have KA_h6 := KA_h4.new eh6 nq6
  refine v_putF C [.int 0, .ref q1, .int 0, .ref q6, .null, .null, .null, .int 0, .null, .null, .null, .null, .null, .null, .null, .int 0, .null, .int 0, .null, .null, .null, .null, .null, .null, .null, .int 0, .null, .null, .null, .null] P_X5_13 hin k7 rfl rfl rfl (Nat.le_of_ble_eq_true rfl) dX5_init_17 (v_nw (fun h9 eh9 => ?_))
  have k10 : h9 m = some (.inr (8, [.int 0, .ref q1, .int 0, .ref q6, .null, .null, .null, .int 0, .null, .null, .null, .null, .null, .null, .null, .int 0, .null, .int 0, .null, .null, .null, .null, .null, .null, .null, .int 0, .null, .null, .null, .null])) := by rw [eh9]; exact zup_self _ _ _
  have KA_h9 := KA_h6.put eh9
  refine v_aload_n C 0 rfl dX5_init_20 rfl ?_
  refine v_bipush (v := 8) C dX5_init_21 (by decide) ?_
  refine v_newa (atype := .int) (N := 8) (z := (8, .inl (fun _ => 0))) C 0 rfl rfl rfl AY_int (fun cA => rfl) (by decide) (by decide) (by decide) (Nat.le_of_ble_eq_true rfl) (Nat.le_of_ble_eq_true rfl) dX5_init_23 (fun q11 gq11 nq11 => v_nw (fun h11 eh11 => ?_))
  have k12 : h11 m = some (.inr (8, [.int 0, .ref q1, .int 0, .ref q6, .null, .null, .null, .int 0, .null, .null, .null, .null, .null, .null, .null, .int 0, .null, .int 0, .null, .null, .null, .null, .null, .null, .null, .int 0, .null, .null, .null, .null])) := by rw [eh11, zup_ne _ _ (zne_new nq11 k10)]; exact k10
  have k13 : h11 q11 = some (.inl (gc G 0, 8, .inl (fun _ => 0))) := by rw [eh11]; exact zup_self _ _ _
  have KA_h11 := KA_h9.new eh11 nq11
  refine v_putF C [.int 0, .ref q1, .int 0, .ref q6, .ref q11, .null, .null, .int 0, .null, .null, .null, .null, .null, .null, .null, .int 0, .null, .int 0, .null, .null, .null, .null, .null, .null, .null, .int 0, .null, .null, .null, .null] P_X5_16 hin k12 rfl rfl rfl (Nat.le_of_ble_eq_true rfl) dX5_init_25 (v_nw (fun h14 eh14 => ?_))
  have k15 : h14 m = some (.inr (8, [.int 0, .ref q1, .int 0, .ref q6, .ref q11, .null, .null, .int 0, .null, .null, .null, .null, .null, .null, .null, .int 0, .null, .int 0, .null, .null, .null, .null, .null, .null, .null, .int 0, .null, .null, .null, .null])) := by rw [eh14]; exact zup_self _ _ _
  have KA_h14 := KA_h11.put eh14
  refine v_aload_n C 0 rfl dX5_init_28 rfl ?_
  refine v_sipush (v := 512) C dX5_init_29 (by decide) ?_
  refine v_newa (atype := .int) (N := 512) (z := (512, .inl (fun _ => 0))) C 0 rfl rfl rfl AY_int (fun cA => rfl) (by decide) (by decide) (by decide) (Nat.le_of_ble_eq_true rfl) (Nat.le_of_ble_eq_true rfl) dX5_init_32 (fun q16 gq16 nq16 => v_nw (fun h16 eh16 => ?_))
  have k17 : h16 m = some (.inr (8, [.int 0, .ref q1, .int 0, .ref q6, .ref q11, .null, .null, .int 0, .null, .null, .null, .null, .null, .null, .null, .int 0, .null, .int 0, .null, .null, .null, .null, .null, .null, .null, .int 0, .null, .null, .null, .null])) := by rw [eh16, zup_ne _ _ (zne_new nq16 k15)]; exact k15
  have k18 : h16 q16 = some (.inl (gc G 0, 512, .inl (fun _ => 0))) := by rw [eh16]; exact zup_self _ _ _
  have KA_h16 := KA_h14.new eh16 nq16
  refine v_putF C [.int 0, .ref q1, .int 0, .ref q6, .ref q11, .ref q16, .null, .int 0, .null, .null, .null, .null, .null, .null, .null, .int 0, .null, .int 0, .null, .null, .null, .null, .null, .null, .null, .int 0, .null, .null, .null, .null] P_X5_19 hin k17 rfl rfl rfl (Nat.le_of_ble_eq_true rfl) dX5_init_34 (v_nw (fun h19 eh19 => ?_))
  have k20 : h19 m = some (.inr (8, [.int 0, .ref q1, .int 0, .ref q6, .ref q11, .ref q16, .null, .int 0, .null, .null, .null, .null, .null, .null, .null, .int 0, .null, .int 0, .null, .null, .null, .null, .null, .null, .null, .int 0, .null, .null, .null, .null])) := by rw [eh19]; exact zup_self _ _ _
  have KA_h19 := KA_h16.put eh19
  refine v_aload_n C 0 rfl dX5_init_37 rfl ?_
  refine v_sipush (v := 512) C dX5_init_38 (by decide) ?_
  refine v_newa (atype := .int) (N := 512) (z := (512, .inl (fun _ => 0))) C 0 rfl rfl rfl AY_int (fun cA => rfl) (by decide) (by decide) (by decide) (Nat.le_of_ble_eq_true rfl) (Nat.le_of_ble_eq_true rfl) dX5_init_41 (fun q21 gq21 nq21 => v_nw (fun h21 eh21 => ?_))
  have k22 : h21 m = some (.inr (8, [.int 0, .ref q1, .int 0, .ref q6, .ref q11, .ref q16, .null, .int 0, .null, .null, .null, .null, .null, .null, .null, .int 0, .null, .int 0, .null, .null, .null, .null, .null, .null, .null, .int 0, .null, .null, .null, .null])) := by rw [eh21, zup_ne _ _ (zne_new nq21 k20)]; exact k20
  have k23 : h21 q21 = some (.inl (gc G 0, 512, .inl (fun _ => 0))) := by rw [eh21]; exact zup_self _ _ _
  have KA_h21 := KA_h19.new eh21 nq21
  refine v_putF C [.int 0, .ref q1, .int 0, .ref q6, .ref q11, .ref q16, .ref q21, .int 0, .null, .null, .null, .null, .null, .null, .null, .int 0, .null, .int 0, .null, .null, .null, .null, .null, .null, .null, .int 0, .null, .null, .null, .null] P_X5_22 hin k22 rfl rfl rfl (Nat.le_of_ble_eq_true rfl) dX5_init_43 (v_nw (fun h24 eh24 => ?_))
  have k25 : h24 m = some (.inr (8, [.int 0, .ref q1, .int 0, .ref q6, .ref q11, .ref q16, .ref q21, .int 0, .null, .null, .null, .null, .null, .null, .null, .int 0, .null, .int 0, .null, .null, .null, .null, .null, .null, .null, .int 0, .null, .null, .null, .null])) := by rw [eh24]; exact zup_self _ _ _
  have KA_h24 := KA_h21.put eh24
  refine v_aload_n C 0 rfl dX5_init_46 rfl ?_
  refine v_bipush (v := 10) C dX5_init_47 (by decide) ?_
  refine v_newa (atype := .int) (N := 10) (z := (10, .inl (fun _ => 0))) C 0 rfl rfl rfl AY_int (fun cA => rfl) (by decide) (by decide) (by decide) (Nat.le_of_ble_eq_true rfl) (Nat.le_of_ble_eq_true rfl) dX5_init_49 (fun q26 gq26 nq26 => v_nw (fun h26 eh26 => ?_))
  have k27 : h26 m = some (.inr (8, [.int 0, .ref q1, .int 0, .ref q6, .ref q11, .ref q16, .ref q21, .int 0, .null, .null, .null, .null, .null, .null, .null, .int 0, .null, .int 0, .null, .null, .null, .null, .null, .null, .null, .int 0, .null, .null, .null, .null])) := by rw [eh26, zup_ne _ _ (zne_new nq26 k25)]; exact k25
  have k28 : h26 q26 = some (.inl (gc G 0, 10, .inl (fun _ => 0))) := by rw [eh26]; exact zup_self _ _ _
  have KA_h26 := KA_h24.new eh26 nq26
  refine v_putF C [.int 0, .ref q1, .int 0, .ref q6, .ref q11, .ref q16, .ref q21, .int 0, .ref q26, .null, .null, .null, .null, .null, .null, .int 0, .null, .int 0, .null, .null, .null, .null, .null, .null, .null, .int 0, .null, .null, .null, .null] P_X5_25 hin k27 rfl rfl rfl (Nat.le_of_ble_eq_true rfl) dX5_init_51 (v_nw (fun h29 eh29 => ?_))
  have k30 : h29 m = some (.inr (8, [.int 0, .ref q1, .int 0, .ref q6, .ref q11, .ref q16, .ref q21, .int 0, .ref q26, .null, .null, .null, .null, .null, .null, .int 0, .null, .int 0, .null, .null, .null, .null, .null, .null, .null, .int 0, .null, .null, .null, .null])) := by rw [eh29]; exact zup_self _ _ _
  have KA_h29 := KA_h26.put eh29
  refine v_aload_n C 0 rfl dX5_init_54 rfl ?_
  refine v_sipush (v := 200) C dX5_init_55 (by decide) ?_
  refine v_newa (atype := .int) (N := 200) (z := (200, .inl (fun _ => 0))) C 0 rfl rfl rfl AY_int (fun cA => rfl) (by decide) (by decide) (by decide) (Nat.le_of_ble_eq_true rfl) (Nat.le_of_ble_eq_true rfl) dX5_init_58 (fun q31 gq31 nq31 => v_nw (fun h31 eh31 => ?_))
  have k32 : h31 m = some (.inr (8, [.int 0, .ref q1, .int 0, .ref q6, .ref q11, .ref q16, .ref q21, .int 0, .ref q26, .null, .null, .null, .null, .null, .null, .int 0, .null, .int 0, .null, .null, .null, .null, .null, .null, .null, .int 0, .null, .null, .null, .null])) := by rw [eh31, zup_ne _ _ (zne_new nq31 k30)]; exact k30
  have k33 : h31 q31 = some (.inl (gc G 0, 200, .inl (fun _ => 0))) := by rw [eh31]; exact zup_self _ _ _
  have KA_h31 := KA_h29.new eh31 nq31
  refine v_putF C [.int 0, .ref q1, .int 0, .ref q6, .ref q11, .ref q16, .ref q21, .int 0, .ref q26, .ref q31, .null, .null, .null, .null, .null, .int 0, .null, .int 0, .null, .null, .null, .null, .null, .null, .null, .int 0, .null, .null, .null, .null] P_X5_28 hin k32 rfl rfl rfl (Nat.le_of_ble_eq_true rfl) dX5_init_60 (v_nw (fun h34 eh34 => ?_))
  have k35 : h34 m = some (.inr (8, [.int 0, .ref q1, .int 0, .ref q6, .ref q11, .ref q16, .ref q21, .int 0, .ref q26, .ref q31, .null, .null, .null, .null, .null, .int 0, .null, .int 0, .null, .null, .null, .null, .null, .null, .null, .int 0, .null, .null, .null, .null])) := by rw [eh34]; exact zup_self _ _ _
  have KA_h34 := KA_h31.put eh34
  refine v_aload_n C 0 rfl dX5_init_63 rfl ?_
  refine v_sipush (v := 12800) C dX5_init_64 (by decide) ?_
  refine v_newa (atype := .int) (N := 12800) (z := (12800, .inl (fun _ => 0))) C 0 rfl rfl rfl AY_int (fun cA => rfl) (by decide) (by decide) (by decide) (Nat.le_of_ble_eq_true rfl) (Nat.le_of_ble_eq_true rfl) dX5_init_67 (fun q36 gq36 nq36 => v_nw (fun h36 eh36 => ?_))
  have k37 : h36 m = some (.inr (8, [.int 0, .ref q1, .int 0, .ref q6, .ref q11, .ref q16, .ref q21, .int 0, .ref q26, .ref q31, .null, .null, .null, .null, .null, .int 0, .null, .int 0, .null, .null, .null, .null, .null, .null, .null, .int 0, .null, .null, .null, .null])) := by rw [eh36, zup_ne _ _ (zne_new nq36 k35)]; exact k35
  have k38 : h36 q36 = some (.inl (gc G 0, 12800, .inl (fun _ => 0))) := by rw [eh36]; exact zup_self _ _ _
  have KA_h36 := KA_h34.new eh36 nq36
  refine v_putF C [.int 0, .ref q1, .int 0, .ref q6, .ref q11, .ref q16, .ref q21, .int 0, .ref q26, .ref q31, .ref q36, .null, .null, .null, .null, .int 0, .null, .int 0, .null, .null, .null, .null, .null, .null, .null, .int 0, .null, .null, .null, .null] P_X5_31 hin k37 rfl rfl rfl (Nat.le_of_ble_eq_true rfl) dX5_init_69 (v_nw (fun h39 eh39 => ?_))
  have k40 : h39 m = some (.inr (8, [.int 0, .ref q1, .int 0, .ref q6, .ref q11, .ref q16, .ref q21, .int 0, .ref q26, .ref q31, .ref q36, .null, .null, .null, .null, .int 0, .null, .int 0, .null, .null, .null, .null, .null, .null, .null, .int 0, .null, .null, .null, .null])) := by rw [eh39]; exact zup_self _ _ _
  have KA_h39 := KA_h36.put eh39
  refine v_aload_n C 0 rfl dX5_init_72 rfl ?_
  refine v_sipush (v := 12800) C dX5_init_73 (by decide) ?_
  refine v_newa (atype := .int) (N := 12800) (z := (12800, .inl (fun _ => 0))) C 0 rfl rfl rfl AY_int (fun cA => rfl) (by decide) (by decide) (by decide) (Nat.le_of_ble_eq_true rfl) (Nat.le_of_ble_eq_true rfl) dX5_init_76 (fun q41 gq41 nq41 => v_nw (fun h41 eh41 => ?_))
  have k42 : h41 m = some (.inr (8, [.int 0, .ref q1, .int 0, .ref q6, .ref q11, .ref q16, .ref q21, .int 0, .ref q26, .ref q31, .ref q36, .null, .null, .null, .null, .int 0, .null, .int 0, .null, .null, .null, .null, .null, .null, .null, .int 0, .null, .null, .null, .null])) := by rw [eh41, zup_ne _ _ (zne_new nq41 k40)]; exact k40
  have k43 : h41 q41 = some (.inl (gc G 0, 12800, .inl (fun _ => 0))) := by rw [eh41]; exact zup_self _ _ _
  have KA_h41 := KA_h39.new eh41 nq41
  refine v_putF C [.int 0, .ref q1, .int 0, .ref q6, .ref q11, .ref q16, .ref q21, .int 0, .ref q26, .ref q31, .ref q36, .ref q41, .null, .null, .null, .int 0, .null, .int 0, .null, .null, .null, .null, .null, .null, .null, .int 0, .null, .null, .null, .null] P_X5_34 hin k42 rfl rfl rfl (Nat.le_of_ble_eq_true rfl) dX5_init_78 (v_nw (fun h44 eh44 => ?_))
  have k45 : h44 m = some (.inr (8, [.int 0, .ref q1, .int 0, .ref q6, .ref q11, .ref q16, .ref q21, .int 0, .ref q26, .ref q31, .ref q36, .ref q41, .null, .null, .null, .int 0, .null, .int 0, .null, .null, .null, .null, .null, .null, .null, .int 0, .null, .null, .null, .null])) := by rw [eh44]; exact zup_self _ _ _
  have KA_h44 := KA_h41.put eh44
  refine v_aload_n C 0 rfl dX5_init_81 rfl ?_
  refine v_sipush (v := 200) C dX5_init_82 (by decide) ?_
  refine v_newa (atype := .long) (N := 200) (z := (200, .inr (.inl (fun _ => 0)))) C 1 rfl rfl rfl AY_long (fun cA => rfl) (by decide) (by decide) (by decide) (Nat.le_of_ble_eq_true rfl) (Nat.le_of_ble_eq_true rfl) dX5_init_85 (fun q46 gq46 nq46 => v_nw (fun h46 eh46 => ?_))
  have k47 : h46 m = some (.inr (8, [.int 0, .ref q1, .int 0, .ref q6, .ref q11, .ref q16, .ref q21, .int 0, .ref q26, .ref q31, .ref q36, .ref q41, .null, .null, .null, .int 0, .null, .int 0, .null, .null, .null, .null, .null, .null, .null, .int 0, .null, .null, .null, .null])) := by rw [eh46, zup_ne _ _ (zne_new nq46 k45)]; exact k45
  have k48 : h46 q46 = some (.inl (gc G 1, 200, .inr (.inl (fun _ => 0)))) := by rw [eh46]; exact zup_self _ _ _
  have KA_h46 := KA_h44.new eh46 nq46
  refine v_putF C [.int 0, .ref q1, .int 0, .ref q6, .ref q11, .ref q16, .ref q21, .int 0, .ref q26, .ref q31, .ref q36, .ref q41, .ref q46, .null, .null, .int 0, .null, .int 0, .null, .null, .null, .null, .null, .null, .null, .int 0, .null, .null, .null, .null] P_X5_37 hin k47 rfl rfl rfl (Nat.le_of_ble_eq_true rfl) dX5_init_87 (v_nw (fun h49 eh49 => ?_))
  have k50 : h49 m = some (.inr (8, [.int 0, .ref q1, .int 0, .ref q6, .ref q11, .ref q16, .ref q21, .int 0, .ref q26, .ref q31, .ref q36, .ref q41, .ref q46, .null, .null, .int 0, .null, .int 0, .null, .null, .null, .null, .null, .null, .null, .int 0, .null, .null, .null, .null])) := by rw [eh49]; exact zup_self _ _ _
  have KA_h49 := KA_h46.put eh49
  refine v_aload_n C 0 rfl dX5_init_90 rfl ?_
  refine v_sipush (v := 200) C dX5_init_91 (by decide) ?_
  refine v_newa (atype := .long) (N := 200) (z := (200, .inr (.inl (fun _ => 0)))) C 1 rfl rfl rfl AY_long (fun cA => rfl) (by decide) (by decide) (by decide) (Nat.le_of_ble_eq_true rfl) (Nat.le_of_ble_eq_true rfl) dX5_init_94 (fun q51 gq51 nq51 => v_nw (fun h51 eh51 => ?_))
  have k52 : h51 m = some (.inr (8, [.int 0, .ref q1, .int 0, .ref q6, .ref q11, .ref q16, .ref q21, .int 0, .ref q26, .ref q31, .ref q36, .ref q41, .ref q46, .null, .null, .int 0, .null, .int 0, .null, .null, .null, .null, .null, .null, .null, .int 0, .null, .null, .null, .null])) := by rw [eh51, zup_ne _ _ (zne_new nq51 k50)]; exact k50
  have k53 : h51 q51 = some (.inl (gc G 1, 200, .inr (.inl (fun _ => 0)))) := by rw [eh51]; exact zup_self _ _ _
  have KA_h51 := KA_h49.new eh51 nq51
  refine v_putF C [.int 0, .ref q1, .int 0, .ref q6, .ref q11, .ref q16, .ref q21, .int 0, .ref q26, .ref q31, .ref q36, .ref q41, .ref q46, .ref q51, .null, .int 0, .null, .int 0, .null, .null, .null, .null, .null, .null, .null, .int 0, .null, .null, .null, .null] P_X5_41 hin k52 rfl rfl rfl (Nat.le_of_ble_eq_true rfl) dX5_init_96 (v_nw (fun h54 eh54 => ?_))
  have k55 : h54 m = some (.inr (8, [.int 0, .ref q1, .int 0, .ref q6, .ref q11, .ref q16, .ref q21, .int 0, .ref q26, .ref q31, .ref q36, .ref q41, .ref q46, .ref q51, .null, .int 0, .null, .int 0, .null, .null, .null, .null, .null, .null, .null, .int 0, .null, .null, .null, .null])) := by rw [eh54]; exact zup_self _ _ _
  have KA_h54 := KA_h51.put eh54
  refine v_aload_n C 0 rfl dX5_init_99 rfl ?_
  refine v_sipush (v := 1000) C dX5_init_100 (by decide) ?_
  refine v_newa (atype := .char) (N := 1000) (z := (1000, .inl (fun _ => 0))) C 3 rfl rfl rfl AY_char (fun cA => rfl) (by decide) (by decide) (by decide) (Nat.le_of_ble_eq_true rfl) (Nat.le_of_ble_eq_true rfl) dX5_init_103 (fun q56 gq56 nq56 => v_nw (fun h56 eh56 => ?_))
  have k57 : h56 m = some (.inr (8, [.int 0, .ref q1, .int 0, .ref q6, .ref q11, .ref q16, .ref q21, .int 0, .ref q26, .ref q31, .ref q36, .ref q41, .ref q46, .ref q51, .null, .int 0, .null, .int 0, .null, .null, .null, .null, .null, .null, .null, .int 0, .null, .null, .null, .null])) := by rw [eh56, zup_ne _ _ (zne_new nq56 k55)]; exact k55
  have k58 : h56 q56 = some (.inl (gc G 3, 1000, .inl (fun _ => 0))) := by rw [eh56]; exact zup_self _ _ _
  have KA_h56 := KA_h54.new eh56 nq56
  refine v_putF C [.int 0, .ref q1, .int 0, .ref q6, .ref q11, .ref q16, .ref q21, .int 0, .ref q26, .ref q31, .ref q36, .ref q41, .ref q46, .ref q51, .ref q56, .int 0, .null, .int 0, .null, .null, .null, .null, .null, .null, .null, .int 0, .null, .null, .null, .null] P_X5_44 hin k57 rfl rfl rfl (Nat.le_of_ble_eq_true rfl) dX5_init_105 (v_nw (fun h59 eh59 => ?_))
  have k60 : h59 m = some (.inr (8, [.int 0, .ref q1, .int 0, .ref q6, .ref q11, .ref q16, .ref q21, .int 0, .ref q26, .ref q31, .ref q36, .ref q41, .ref q46, .ref q51, .ref q56, .int 0, .null, .int 0, .null, .null, .null, .null, .null, .null, .null, .int 0, .null, .null, .null, .null])) := by rw [eh59]; exact zup_self _ _ _
  have KA_h59 := KA_h56.put eh59
  refine v_aload_n C 0 rfl dX5_init_108 rfl ?_
  refine v_bipush (v := 16) C dX5_init_109 (by decide) ?_
  refine v_newa (atype := .int) (N := 16) (z := (16, .inl (fun _ => 0))) C 0 rfl rfl rfl AY_int (fun cA => rfl) (by decide) (by decide) (by decide) (Nat.le_of_ble_eq_true rfl) (Nat.le_of_ble_eq_true rfl) dX5_init_111 (fun q61 gq61 nq61 => v_nw (fun h61 eh61 => ?_))
  have k62 : h61 m = some (.inr (8, [.int 0, .ref q1, .int 0, .ref q6, .ref q11, .ref q16, .ref q21, .int 0, .ref q26, .ref q31, .ref q36, .ref q41, .ref q46, .ref q51, .ref q56, .int 0, .null, .int 0, .null, .null, .null, .null, .null, .null, .null, .int 0, .null, .null, .null, .null])) := by rw [eh61, zup_ne _ _ (zne_new nq61 k60)]; exact k60
  have k63 : h61 q61 = some (.inl (gc G 0, 16, .inl (fun _ => 0))) := by rw [eh61]; exact zup_self _ _ _
  have KA_h61 := KA_h59.new eh61 nq61
  refine v_putF C [.int 0, .ref q1, .int 0, .ref q6, .ref q11, .ref q16, .ref q21, .int 0, .ref q26, .ref q31, .ref q36, .ref q41, .ref q46, .ref q51, .ref q56, .int 0, .ref q61, .int 0, .null, .null, .null, .null, .null, .null, .null, .int 0, .null, .null, .null, .null] P_X5_48 hin k62 rfl rfl rfl (Nat.le_of_ble_eq_true rfl) dX5_init_113 (v_nw (fun h64 eh64 => ?_))
  have k65 : h64 m = some (.inr (8, [.int 0, .ref q1, .int 0, .ref q6, .ref q11, .ref q16, .ref q21, .int 0, .ref q26, .ref q31, .ref q36, .ref q41, .ref q46, .ref q51, .ref q56, .int 0, .ref q61, .int 0, .null, .null, .null, .null, .null, .null, .null, .int 0, .null, .null, .null, .null])) := by rw [eh64]; exact zup_self _ _ _
  have KA_h64 := KA_h61.put eh64
  refine v_aload_n C 0 rfl dX5_init_116 rfl ?_
  refine v_bipush (v := 6) C dX5_init_117 (by decide) ?_
  refine v_newa (atype := .int) (N := 6) (z := (6, .inl (fun _ => 0))) C 0 rfl rfl rfl AY_int (fun cA => rfl) (by decide) (by decide) (by decide) (Nat.le_of_ble_eq_true rfl) (Nat.le_of_ble_eq_true rfl) dX5_init_119 (fun q66 gq66 nq66 => v_nw (fun h66 eh66 => ?_))
  have k67 : h66 m = some (.inr (8, [.int 0, .ref q1, .int 0, .ref q6, .ref q11, .ref q16, .ref q21, .int 0, .ref q26, .ref q31, .ref q36, .ref q41, .ref q46, .ref q51, .ref q56, .int 0, .ref q61, .int 0, .null, .null, .null, .null, .null, .null, .null, .int 0, .null, .null, .null, .null])) := by rw [eh66, zup_ne _ _ (zne_new nq66 k65)]; exact k65
  have k68 : h66 q66 = some (.inl (gc G 0, 6, .inl (fun _ => 0))) := by rw [eh66]; exact zup_self _ _ _
  have KA_h66 := KA_h64.new eh66 nq66
  refine v_putF C [.int 0, .ref q1, .int 0, .ref q6, .ref q11, .ref q16, .ref q21, .int 0, .ref q26, .ref q31, .ref q36, .ref q41, .ref q46, .ref q51, .ref q56, .int 0, .ref q61, .int 0, .ref q66, .null, .null, .null, .null, .null, .null, .int 0, .null, .null, .null, .null] P_X5_51 hin k67 rfl rfl rfl (Nat.le_of_ble_eq_true rfl) dX5_init_121 (v_nw (fun h69 eh69 => ?_))
  have k70 : h69 m = some (.inr (8, [.int 0, .ref q1, .int 0, .ref q6, .ref q11, .ref q16, .ref q21, .int 0, .ref q26, .ref q31, .ref q36, .ref q41, .ref q46, .ref q51, .ref q56, .int 0, .ref q61, .int 0, .ref q66, .null, .null, .null, .null, .null, .null, .int 0, .null, .null, .null, .null])) := by rw [eh69]; exact zup_self _ _ _
  have KA_h69 := KA_h66.put eh69
  refine v_aload_n C 0 rfl dX5_init_124 rfl ?_
  refine v_bipush (v := 6) C dX5_init_125 (by decide) ?_
  refine v_newa (atype := .int) (N := 6) (z := (6, .inl (fun _ => 0))) C 0 rfl rfl rfl AY_int (fun cA => rfl) (by decide) (by decide) (by decide) (Nat.le_of_ble_eq_true rfl) (Nat.le_of_ble_eq_true rfl) dX5_init_127 (fun q71 gq71 nq71 => v_nw (fun h71 eh71 => ?_))
  have k72 : h71 m = some (.inr (8, [.int 0, .ref q1, .int 0, .ref q6, .ref q11, .ref q16, .ref q21, .int 0, .ref q26, .ref q31, .ref q36, .ref q41, .ref q46, .ref q51, .ref q56, .int 0, .ref q61, .int 0, .ref q66, .null, .null, .null, .null, .null, .null, .int 0, .null, .null, .null, .null])) := by rw [eh71, zup_ne _ _ (zne_new nq71 k70)]; exact k70
  have k73 : h71 q71 = some (.inl (gc G 0, 6, .inl (fun _ => 0))) := by rw [eh71]; exact zup_self _ _ _
  have KA_h71 := KA_h69.new eh71 nq71
  refine v_putF C [.int 0, .ref q1, .int 0, .ref q6, .ref q11, .ref q16, .ref q21, .int 0, .ref q26, .ref q31, .ref q36, .ref q41, .ref q46, .ref q51, .ref q56, .int 0, .ref q61, .int 0, .ref q66, .ref q71, .null, .null, .null, .null, .null, .int 0, .null, .null, .null, .null] P_X5_54 hin k72 rfl rfl rfl (Nat.le_of_ble_eq_true rfl) dX5_init_129 (v_nw (fun h74 eh74 => ?_))
  have k75 : h74 m = some (.inr (8, [.int 0, .ref q1, .int 0, .ref q6, .ref q11, .ref q16, .ref q21, .int 0, .ref q26, .ref q31, .ref q36, .ref q41, .ref q46, .ref q51, .ref q56, .int 0, .ref q61, .int 0, .ref q66, .ref q71, .null, .null, .null, .null, .null, .int 0, .null, .null, .null, .null])) := by rw [eh74]; exact zup_self _ _ _
  have KA_h74 := KA_h71.put eh74
  refine v_aload_n C 0 rfl dX5_init_132 rfl ?_
  refine v_bipush (v := 120) C dX5_init_133 (by decide) ?_
  refine v_newa (atype := .int) (N := 120) (z := (120, .inl (fun _ => 0))) C 0 rfl rfl rfl AY_int (fun cA => rfl) (by decide) (by decide) (by decide) (Nat.le_of_ble_eq_true rfl) (Nat.le_of_ble_eq_true rfl) dX5_init_135 (fun q76 gq76 nq76 => v_nw (fun h76 eh76 => ?_))
  have k77 : h76 m = some (.inr (8, [.int 0, .ref q1, .int 0, .ref q6, .ref q11, .ref q16, .ref q21, .int 0, .ref q26, .ref q31, .ref q36, .ref q41, .ref q46, .ref q51, .ref q56, .int 0, .ref q61, .int 0, .ref q66, .ref q71, .null, .null, .null, .null, .null, .int 0, .null, .null, .null, .null])) := by rw [eh76, zup_ne _ _ (zne_new nq76 k75)]; exact k75
  have k78 : h76 q76 = some (.inl (gc G 0, 120, .inl (fun _ => 0))) := by rw [eh76]; exact zup_self _ _ _
  have KA_h76 := KA_h74.new eh76 nq76
  refine v_putF C [.int 0, .ref q1, .int 0, .ref q6, .ref q11, .ref q16, .ref q21, .int 0, .ref q26, .ref q31, .ref q36, .ref q41, .ref q46, .ref q51, .ref q56, .int 0, .ref q61, .int 0, .ref q66, .ref q71, .ref q76, .null, .null, .null, .null, .int 0, .null, .null, .null, .null] P_X5_57 hin k77 rfl rfl rfl (Nat.le_of_ble_eq_true rfl) dX5_init_137 (v_nw (fun h79 eh79 => ?_))
  have k80 : h79 m = some (.inr (8, [.int 0, .ref q1, .int 0, .ref q6, .ref q11, .ref q16, .ref q21, .int 0, .ref q26, .ref q31, .ref q36, .ref q41, .ref q46, .ref q51, .ref q56, .int 0, .ref q61, .int 0, .ref q66, .ref q71, .ref q76, .null, .null, .null, .null, .int 0, .null, .null, .null, .null])) := by rw [eh79]; exact zup_self _ _ _
  have KA_h79 := KA_h76.put eh79
  refine v_aload_n C 0 rfl dX5_init_140 rfl ?_
  refine v_bipush (v := 6) C dX5_init_141 (by decide) ?_
  refine v_newa (atype := .int) (N := 6) (z := (6, .inl (fun _ => 0))) C 0 rfl rfl rfl AY_int (fun cA => rfl) (by decide) (by decide) (by decide) (Nat.le_of_ble_eq_true rfl) (Nat.le_of_ble_eq_true rfl) dX5_init_143 (fun q81 gq81 nq81 => v_nw (fun h81 eh81 => ?_))
  have k82 : h81 m = some (.inr (8, [.int 0, .ref q1, .int 0, .ref q6, .ref q11, .ref q16, .ref q21, .int 0, .ref q26, .ref q31, .ref q36, .ref q41, .ref q46, .ref q51, .ref q56, .int 0, .ref q61, .int 0, .ref q66, .ref q71, .ref q76, .null, .null, .null, .null, .int 0, .null, .null, .null, .null])) := by rw [eh81, zup_ne _ _ (zne_new nq81 k80)]; exact k80
  have k83 : h81 q81 = some (.inl (gc G 0, 6, .inl (fun _ => 0))) := by rw [eh81]; exact zup_self _ _ _
  have KA_h81 := KA_h79.new eh81 nq81
  refine v_putF C [.int 0, .ref q1, .int 0, .ref q6, .ref q11, .ref q16, .ref q21, .int 0, .ref q26, .ref q31, .ref q36, .ref q41, .ref q46, .ref q51, .ref q56, .int 0, .ref q61, .int 0, .ref q66, .ref q71, .ref q76, .ref q81, .null, .null, .null, .int 0, .null, .null, .null, .null] P_X5_60 hin k82 rfl rfl rfl (Nat.le_of_ble_eq_true rfl) dX5_init_145 (v_nw (fun h84 eh84 => ?_))
  have k85 : h84 m = some (.inr (8, [.int 0, .ref q1, .int 0, .ref q6, .ref q11, .ref q16, .ref q21, .int 0, .ref q26, .ref q31, .ref q36, .ref q41, .ref q46, .ref q51, .ref q56, .int 0, .ref q61, .int 0, .ref q66, .ref q71, .ref q76, .ref q81, .null, .null, .null, .int 0, .null, .null, .null, .null])) := by rw [eh84]; exact zup_self _ _ _
  have KA_h84 := KA_h81.put eh84
  refine v_aload_n C 0 rfl dX5_init_148 rfl ?_
  refine v_bipush (v := 6) C dX5_init_149 (by decide) ?_
  refine v_newa (atype := .int) (N := 6) (z := (6, .inl (fun _ => 0))) C 0 rfl rfl rfl AY_int (fun cA => rfl) (by decide) (by decide) (by decide) (Nat.le_of_ble_eq_true rfl) (Nat.le_of_ble_eq_true rfl) dX5_init_151 (fun q86 gq86 nq86 => v_nw (fun h86 eh86 => ?_))
  have k87 : h86 m = some (.inr (8, [.int 0, .ref q1, .int 0, .ref q6, .ref q11, .ref q16, .ref q21, .int 0, .ref q26, .ref q31, .ref q36, .ref q41, .ref q46, .ref q51, .ref q56, .int 0, .ref q61, .int 0, .ref q66, .ref q71, .ref q76, .ref q81, .null, .null, .null, .int 0, .null, .null, .null, .null])) := by rw [eh86, zup_ne _ _ (zne_new nq86 k85)]; exact k85
  have k88 : h86 q86 = some (.inl (gc G 0, 6, .inl (fun _ => 0))) := by rw [eh86]; exact zup_self _ _ _
  have KA_h86 := KA_h84.new eh86 nq86
  refine v_putF C [.int 0, .ref q1, .int 0, .ref q6, .ref q11, .ref q16, .ref q21, .int 0, .ref q26, .ref q31, .ref q36, .ref q41, .ref q46, .ref q51, .ref q56, .int 0, .ref q61, .int 0, .ref q66, .ref q71, .ref q76, .ref q81, .ref q86, .null, .null, .int 0, .null, .null, .null, .null] P_X5_63 hin k87 rfl rfl rfl (Nat.le_of_ble_eq_true rfl) dX5_init_153 (v_nw (fun h89 eh89 => ?_))
  have k90 : h89 m = some (.inr (8, [.int 0, .ref q1, .int 0, .ref q6, .ref q11, .ref q16, .ref q21, .int 0, .ref q26, .ref q31, .ref q36, .ref q41, .ref q46, .ref q51, .ref q56, .int 0, .ref q61, .int 0, .ref q66, .ref q71, .ref q76, .ref q81, .ref q86, .null, .null, .int 0, .null, .null, .null, .null])) := by rw [eh89]; exact zup_self _ _ _
  have KA_h89 := KA_h86.put eh89
  refine v_aload_n C 0 rfl dX5_init_156 rfl ?_
  refine v_bipush (v := 120) C dX5_init_157 (by decide) ?_
  refine v_newa (atype := .int) (N := 120) (z := (120, .inl (fun _ => 0))) C 0 rfl rfl rfl AY_int (fun cA => rfl) (by decide) (by decide) (by decide) (Nat.le_of_ble_eq_true rfl) (Nat.le_of_ble_eq_true rfl) dX5_init_159 (fun q91 gq91 nq91 => v_nw (fun h91 eh91 => ?_))
  have k92 : h91 m = some (.inr (8, [.int 0, .ref q1, .int 0, .ref q6, .ref q11, .ref q16, .ref q21, .int 0, .ref q26, .ref q31, .ref q36, .ref q41, .ref q46, .ref q51, .ref q56, .int 0, .ref q61, .int 0, .ref q66, .ref q71, .ref q76, .ref q81, .ref q86, .null, .null, .int 0, .null, .null, .null, .null])) := by rw [eh91, zup_ne _ _ (zne_new nq91 k90)]; exact k90
  have k93 : h91 q91 = some (.inl (gc G 0, 120, .inl (fun _ => 0))) := by rw [eh91]; exact zup_self _ _ _
  have KA_h91 := KA_h89.new eh91 nq91
  refine v_putF C [.int 0, .ref q1, .int 0, .ref q6, .ref q11, .ref q16, .ref q21, .int 0, .ref q26, .ref q31, .ref q36, .ref q41, .ref q46, .ref q51, .ref q56, .int 0, .ref q61, .int 0, .ref q66, .ref q71, .ref q76, .ref q81, .ref q86, .ref q91, .null, .int 0, .null, .null, .null, .null] P_X5_66 hin k92 rfl rfl rfl (Nat.le_of_ble_eq_true rfl) dX5_init_161 (v_nw (fun h94 eh94 => ?_))
  have k95 : h94 m = some (.inr (8, [.int 0, .ref q1, .int 0, .ref q6, .ref q11, .ref q16, .ref q21, .int 0, .ref q26, .ref q31, .ref q36, .ref q41, .ref q46, .ref q51, .ref q56, .int 0, .ref q61, .int 0, .ref q66, .ref q71, .ref q76, .ref q81, .ref q86, .ref q91, .null, .int 0, .null, .null, .null, .null])) := by rw [eh94]; exact zup_self _ _ _
  have KA_h94 := KA_h91.put eh94
  refine v_aload_n C 0 rfl dX5_init_164 rfl ?_
  refine v_bipush (v := 120) C dX5_init_165 (by decide) ?_
  refine v_newa (atype := .boolean) (N := 120) (z := (120, .inl (fun _ => 0))) C 4 rfl rfl rfl AY_boolean (fun cA => rfl) (by decide) (by decide) (by decide) (Nat.le_of_ble_eq_true rfl) (Nat.le_of_ble_eq_true rfl) dX5_init_167 (fun q96 gq96 nq96 => v_nw (fun h96 eh96 => ?_))
  have k97 : h96 m = some (.inr (8, [.int 0, .ref q1, .int 0, .ref q6, .ref q11, .ref q16, .ref q21, .int 0, .ref q26, .ref q31, .ref q36, .ref q41, .ref q46, .ref q51, .ref q56, .int 0, .ref q61, .int 0, .ref q66, .ref q71, .ref q76, .ref q81, .ref q86, .ref q91, .null, .int 0, .null, .null, .null, .null])) := by rw [eh96, zup_ne _ _ (zne_new nq96 k95)]; exact k95
  have k98 : h96 q96 = some (.inl (gc G 4, 120, .inl (fun _ => 0))) := by rw [eh96]; exact zup_self _ _ _
  have KA_h96 := KA_h94.new eh96 nq96
  refine v_putF C [.int 0, .ref q1, .int 0, .ref q6, .ref q11, .ref q16, .ref q21, .int 0, .ref q26, .ref q31, .ref q36, .ref q41, .ref q46, .ref q51, .ref q56, .int 0, .ref q61, .int 0, .ref q66, .ref q71, .ref q76, .ref q81, .ref q86, .ref q91, .ref q96, .int 0, .null, .null, .null, .null] P_X5_69 hin k97 rfl rfl rfl (Nat.le_of_ble_eq_true rfl) dX5_init_169 (v_nw (fun h99 eh99 => ?_))
  have k100 : h99 m = some (.inr (8, [.int 0, .ref q1, .int 0, .ref q6, .ref q11, .ref q16, .ref q21, .int 0, .ref q26, .ref q31, .ref q36, .ref q41, .ref q46, .ref q51, .ref q56, .int 0, .ref q61, .int 0, .ref q66, .ref q71, .ref q76, .ref q81, .ref q86, .ref q91, .ref q96, .int 0, .null, .null, .null, .null])) := by rw [eh99]; exact zup_self _ _ _
  have KA_h99 := KA_h96.put eh99
  refine v_aload_n C 0 rfl dX5_init_172 rfl ?_
  refine v_bipush (v := 6) C dX5_init_173 (by decide) ?_
  refine v_newa (atype := .int) (N := 6) (z := (6, .inl (fun _ => 0))) C 0 rfl rfl rfl AY_int (fun cA => rfl) (by decide) (by decide) (by decide) (Nat.le_of_ble_eq_true rfl) (Nat.le_of_ble_eq_true rfl) dX5_init_175 (fun q101 gq101 nq101 => v_nw (fun h101 eh101 => ?_))
  have k102 : h101 m = some (.inr (8, [.int 0, .ref q1, .int 0, .ref q6, .ref q11, .ref q16, .ref q21, .int 0, .ref q26, .ref q31, .ref q36, .ref q41, .ref q46, .ref q51, .ref q56, .int 0, .ref q61, .int 0, .ref q66, .ref q71, .ref q76, .ref q81, .ref q86, .ref q91, .ref q96, .int 0, .null, .null, .null, .null])) := by rw [eh101, zup_ne _ _ (zne_new nq101 k100)]; exact k100
  have k103 : h101 q101 = some (.inl (gc G 0, 6, .inl (fun _ => 0))) := by rw [eh101]; exact zup_self _ _ _
  have KA_h101 := KA_h99.new eh101 nq101
  refine v_putF C [.int 0, .ref q1, .int 0, .ref q6, .ref q11, .ref q16, .ref q21, .int 0, .ref q26, .ref q31, .ref q36, .ref q41, .ref q46, .ref q51, .ref q56, .int 0, .ref q61, .int 0, .ref q66, .ref q71, .ref q76, .ref q81, .ref q86, .ref q91, .ref q96, .int 0, .ref q101, .null, .null, .null] P_X5_73 hin k102 rfl rfl rfl (Nat.le_of_ble_eq_true rfl) dX5_init_177 (v_nw (fun h104 eh104 => ?_))
  have k105 : h104 m = some (.inr (8, [.int 0, .ref q1, .int 0, .ref q6, .ref q11, .ref q16, .ref q21, .int 0, .ref q26, .ref q31, .ref q36, .ref q41, .ref q46, .ref q51, .ref q56, .int 0, .ref q61, .int 0, .ref q66, .ref q71, .ref q76, .ref q81, .ref q86, .ref q91, .ref q96, .int 0, .ref q101, .null, .null, .null])) := by rw [eh104]; exact zup_self _ _ _
  have KA_h104 := KA_h101.put eh104
  refine v_aload_n C 0 rfl dX5_init_180 rfl ?_
  refine v_bipush (v := 6) C dX5_init_181 (by decide) ?_
  refine v_newa (atype := .int) (N := 6) (z := (6, .inl (fun _ => 0))) C 0 rfl rfl rfl AY_int (fun cA => rfl) (by decide) (by decide) (by decide) (Nat.le_of_ble_eq_true rfl) (Nat.le_of_ble_eq_true rfl) dX5_init_183 (fun q106 gq106 nq106 => v_nw (fun h106 eh106 => ?_))
  have k107 : h106 m = some (.inr (8, [.int 0, .ref q1, .int 0, .ref q6, .ref q11, .ref q16, .ref q21, .int 0, .ref q26, .ref q31, .ref q36, .ref q41, .ref q46, .ref q51, .ref q56, .int 0, .ref q61, .int 0, .ref q66, .ref q71, .ref q76, .ref q81, .ref q86, .ref q91, .ref q96, .int 0, .ref q101, .null, .null, .null])) := by rw [eh106, zup_ne _ _ (zne_new nq106 k105)]; exact k105
  have k108 : h106 q106 = some (.inl (gc G 0, 6, .inl (fun _ => 0))) := by rw [eh106]; exact zup_self _ _ _
  have KA_h106 := KA_h104.new eh106 nq106
  refine v_putF C [.int 0, .ref q1, .int 0, .ref q6, .ref q11, .ref q16, .ref q21, .int 0, .ref q26, .ref q31, .ref q36, .ref q41, .ref q46, .ref q51, .ref q56, .int 0, .ref q61, .int 0, .ref q66, .ref q71, .ref q76, .ref q81, .ref q86, .ref q91, .ref q96, .int 0, .ref q101, .ref q106, .null, .null] P_X5_76 hin k107 rfl rfl rfl (Nat.le_of_ble_eq_true rfl) dX5_init_185 (v_nw (fun h109 eh109 => ?_))
  have k110 : h109 m = some (.inr (8, [.int 0, .ref q1, .int 0, .ref q6, .ref q11, .ref q16, .ref q21, .int 0, .ref q26, .ref q31, .ref q36, .ref q41, .ref q46, .ref q51, .ref q56, .int 0, .ref q61, .int 0, .ref q66, .ref q71, .ref q76, .ref q81, .ref q86, .ref q91, .ref q96, .int 0, .ref q101, .ref q106, .null, .null])) := by rw [eh109]; exact zup_self _ _ _
  have KA_h109 := KA_h106.put eh109
  refine v_aload_n C 0 rfl dX5_init_188 rfl ?_
  refine v_bipush (v := 6) C dX5_init_189 (by decide) ?_
  refine v_newa (atype := .int) (N := 6) (z := (6, .inl (fun _ => 0))) C 0 rfl rfl rfl AY_int (fun cA => rfl) (by decide) (by decide) (by decide) (Nat.le_of_ble_eq_true rfl) (Nat.le_of_ble_eq_true rfl) dX5_init_191 (fun q111 gq111 nq111 => v_nw (fun h111 eh111 => ?_))
  have k112 : h111 m = some (.inr (8, [.int 0, .ref q1, .int 0, .ref q6, .ref q11, .ref q16, .ref q21, .int 0, .ref q26, .ref q31, .ref q36, .ref q41, .ref q46, .ref q51, .ref q56, .int 0, .ref q61, .int 0, .ref q66, .ref q71, .ref q76, .ref q81, .ref q86, .ref q91, .ref q96, .int 0, .ref q101, .ref q106, .null, .null])) := by rw [eh111, zup_ne _ _ (zne_new nq111 k110)]; exact k110
  have k113 : h111 q111 = some (.inl (gc G 0, 6, .inl (fun _ => 0))) := by rw [eh111]; exact zup_self _ _ _
  have KA_h111 := KA_h109.new eh111 nq111
  refine v_putF C [.int 0, .ref q1, .int 0, .ref q6, .ref q11, .ref q16, .ref q21, .int 0, .ref q26, .ref q31, .ref q36, .ref q41, .ref q46, .ref q51, .ref q56, .int 0, .ref q61, .int 0, .ref q66, .ref q71, .ref q76, .ref q81, .ref q86, .ref q91, .ref q96, .int 0, .ref q101, .ref q106, .ref q111, .null] P_X5_79 hin k112 rfl rfl rfl (Nat.le_of_ble_eq_true rfl) dX5_init_193 (v_nw (fun h114 eh114 => ?_))
  have k115 : h114 m = some (.inr (8, [.int 0, .ref q1, .int 0, .ref q6, .ref q11, .ref q16, .ref q21, .int 0, .ref q26, .ref q31, .ref q36, .ref q41, .ref q46, .ref q51, .ref q56, .int 0, .ref q61, .int 0, .ref q66, .ref q71, .ref q76, .ref q81, .ref q86, .ref q91, .ref q96, .int 0, .ref q101, .ref q106, .ref q111, .null])) := by rw [eh114]; exact zup_self _ _ _
  have KA_h114 := KA_h111.put eh114
  refine v_aload_n C 0 rfl dX5_init_196 rfl ?_
  refine v_bipush (v := 6) C dX5_init_197 (by decide) ?_
  refine v_newa (atype := .long) (N := 6) (z := (6, .inr (.inl (fun _ => 0)))) C 1 rfl rfl rfl AY_long (fun cA => rfl) (by decide) (by decide) (by decide) (Nat.le_of_ble_eq_true rfl) (Nat.le_of_ble_eq_true rfl) dX5_init_199 (fun q116 gq116 nq116 => v_nw (fun h116 eh116 => ?_))
  have k117 : h116 m = some (.inr (8, [.int 0, .ref q1, .int 0, .ref q6, .ref q11, .ref q16, .ref q21, .int 0, .ref q26, .ref q31, .ref q36, .ref q41, .ref q46, .ref q51, .ref q56, .int 0, .ref q61, .int 0, .ref q66, .ref q71, .ref q76, .ref q81, .ref q86, .ref q91, .ref q96, .int 0, .ref q101, .ref q106, .ref q111, .null])) := by rw [eh116, zup_ne _ _ (zne_new nq116 k115)]; exact k115
  have k118 : h116 q116 = some (.inl (gc G 1, 6, .inr (.inl (fun _ => 0)))) := by rw [eh116]; exact zup_self _ _ _
  have KA_h116 := KA_h114.new eh116 nq116
  refine v_putF C [.int 0, .ref q1, .int 0, .ref q6, .ref q11, .ref q16, .ref q21, .int 0, .ref q26, .ref q31, .ref q36, .ref q41, .ref q46, .ref q51, .ref q56, .int 0, .ref q61, .int 0, .ref q66, .ref q71, .ref q76, .ref q81, .ref q86, .ref q91, .ref q96, .int 0, .ref q101, .ref q106, .ref q111, .ref q116] P_X5_82 hin k117 rfl rfl rfl (Nat.le_of_ble_eq_true rfl) dX5_init_201 (v_nw (fun h119 eh119 => ?_))
  have k120 : h119 m = some (.inr (8, [.int 0, .ref q1, .int 0, .ref q6, .ref q11, .ref q16, .ref q21, .int 0, .ref q26, .ref q31, .ref q36, .ref q41, .ref q46, .ref q51, .ref q56, .int 0, .ref q61, .int 0, .ref q66, .ref q71, .ref q76, .ref q81, .ref q86, .ref q91, .ref q96, .int 0, .ref q101, .ref q106, .ref q111, .ref q116])) := by rw [eh119]; exact zup_self _ _ _
  have KA_h119 := KA_h116.put eh119
  obtain ⟨kz1, kz2, kz3, kz4, kz5, -⟩ := id KA_h119
  have k_q116 : h119 q116 = some (.inl (gc G 1, 6, .inr (.inl (fun _ => 0)))) := kz1 _ List.mem_cons_self
  have k_q111 : h119 q111 = some (.inl (gc G 0, 6, .inl (fun _ => 0))) := kz1 _ (List.mem_cons_of_mem _ List.mem_cons_self)
  have k_q106 : h119 q106 = some (.inl (gc G 0, 6, .inl (fun _ => 0))) := kz1 _ (List.mem_cons_of_mem _ (List.mem_cons_of_mem _ List.mem_cons_self))
  have k_q101 : h119 q101 = some (.inl (gc G 0, 6, .inl (fun _ => 0))) := kz1 _ (List.mem_cons_of_mem _ (List.mem_cons_of_mem _ (List.mem_cons_of_mem _ List.mem_cons_self)))
  have k_q96 : h119 q96 = some (.inl (gc G 4, 120, .inl (fun _ => 0))) := kz1 _ (List.mem_cons_of_mem _ (List.mem_cons_of_mem _ (List.mem_cons_of_mem _ (List.mem_cons_of_mem _ List.mem_cons_self))))
  have k_q91 : h119 q91 = some (.inl (gc G 0, 120, .inl (fun _ => 0))) := kz1 _ (List.mem_cons_of_mem _ (List.mem_cons_of_mem _ (List.mem_cons_of_mem _ (List.mem_cons_of_mem _ (List.mem_cons_of_mem _ List.mem_cons_self)))))
  have k_q86 : h119 q86 = some (.inl (gc G 0, 6, .inl (fun _ => 0))) := kz1 _ (List.mem_cons_of_mem _ (List.mem_cons_of_mem _ (List.mem_cons_of_mem _ (List.mem_cons_of_mem _ (List.mem_cons_of_mem _ (List.mem_cons_of_mem _ List.mem_cons_self))))))
  have k_q81 : h119 q81 = some (.inl (gc G 0, 6, .inl (fun _ => 0))) := kz1 _ (List.mem_cons_of_mem _ (List.mem_cons_of_mem _ (List.mem_cons_of_mem _ (List.mem_cons_of_mem _ (List.mem_cons_of_mem _ (List.mem_cons_of_mem _ (List.mem_cons_of_mem _ List.mem_cons_self)))))))
  have k_q76 : h119 q76 = some (.inl (gc G 0, 120, .inl (fun _ => 0))) := kz1 _ (List.mem_cons_of_mem _ (List.mem_cons_of_mem _ (List.mem_cons_of_mem _ (List.mem_cons_of_mem _ (List.mem_cons_of_mem _ (List.mem_cons_of_mem _ (List.mem_cons_of_mem _ (List.mem_cons_of_mem _ List.mem_cons_self))))))))
  have k_q71 : h119 q71 = some (.inl (gc G 0, 6, .inl (fun _ => 0))) := kz1 _ (List.mem_cons_of_mem _ (List.mem_cons_of_mem _ (List.mem_cons_of_mem _ (List.mem_cons_of_mem _ (List.mem_cons_of_mem _ (List.mem_cons_of_mem _ (List.mem_cons_of_mem _ (List.mem_cons_of_mem _ (List.mem_cons_of_mem _ List.mem_cons_self)))))))))
  have k_q66 : h119 q66 = some (.inl (gc G 0, 6, .inl (fun _ => 0))) := kz1 _ (List.mem_cons_of_mem _ (List.mem_cons_of_mem _ (List.mem_cons_of_mem _ (List.mem_cons_of_mem _ (List.mem_cons_of_mem _ (List.mem_cons_of_mem _ (List.mem_cons_of_mem _ (List.mem_cons_of_mem _ (List.mem_cons_of_mem _ (List.mem_cons_of_mem _ List.mem_cons_self))))))))))
  have k_q61 : h119 q61 = some (.inl (gc G 0, 16, .inl (fun _ => 0))) := kz1 _ (List.mem_cons_of_mem _ (List.mem_cons_of_mem _ (List.mem_cons_of_mem _ (List.mem_cons_of_mem _ (List.mem_cons_of_mem _ (List.mem_cons_of_mem _ (List.mem_cons_of_mem _ (List.mem_cons_of_mem _ (List.mem_cons_of_mem _ (List.mem_cons_of_mem _ (List.mem_cons_of_mem _ List.mem_cons_self)))))))))))
  have k_q56 : h119 q56 = some (.inl (gc G 3, 1000, .inl (fun _ => 0))) := kz1 _ (List.mem_cons_of_mem _ (List.mem_cons_of_mem _ (List.mem_cons_of_mem _ (List.mem_cons_of_mem _ (List.mem_cons_of_mem _ (List.mem_cons_of_mem _ (List.mem_cons_of_mem _ (List.mem_cons_of_mem _ (List.mem_cons_of_mem _ (List.mem_cons_of_mem _ (List.mem_cons_of_mem _ (List.mem_cons_of_mem _ List.mem_cons_self))))))))))))
  have k_q51 : h119 q51 = some (.inl (gc G 1, 200, .inr (.inl (fun _ => 0)))) := kz1 _ (List.mem_cons_of_mem _ (List.mem_cons_of_mem _ (List.mem_cons_of_mem _ (List.mem_cons_of_mem _ (List.mem_cons_of_mem _ (List.mem_cons_of_mem _ (List.mem_cons_of_mem _ (List.mem_cons_of_mem _ (List.mem_cons_of_mem _ (List.mem_cons_of_mem _ (List.mem_cons_of_mem _ (List.mem_cons_of_mem _ (List.mem_cons_of_mem _ List.mem_cons_self)))))))))))))
  have k_q46 : h119 q46 = some (.inl (gc G 1, 200, .inr (.inl (fun _ => 0)))) := kz1 _ (List.mem_cons_of_mem _ (List.mem_cons_of_mem _ (List.mem_cons_of_mem _ (List.mem_cons_of_mem _ (List.mem_cons_of_mem _ (List.mem_cons_of_mem _ (List.mem_cons_of_mem _ (List.mem_cons_of_mem _ (List.mem_cons_of_mem _ (List.mem_cons_of_mem _ (List.mem_cons_of_mem _ (List.mem_cons_of_mem _ (List.mem_cons_of_mem _ (List.mem_cons_of_mem _ List.mem_cons_self))))))))))))))
  have k_q41 : h119 q41 = some (.inl (gc G 0, 12800, .inl (fun _ => 0))) := kz1 _ (List.mem_cons_of_mem _ (List.mem_cons_of_mem _ (List.mem_cons_of_mem _ (List.mem_cons_of_mem _ (List.mem_cons_of_mem _ (List.mem_cons_of_mem _ (List.mem_cons_of_mem _ (List.mem_cons_of_mem _ (List.mem_cons_of_mem _ (List.mem_cons_of_mem _ (List.mem_cons_of_mem _ (List.mem_cons_of_mem _ (List.mem_cons_of_mem _ (List.mem_cons_of_mem _ (List.mem_cons_of_mem _ List.mem_cons_self)))))))))))))))
  have k_q36 : h119 q36 = some (.inl (gc G 0, 12800, .inl (fun _ => 0))) := kz1 _ (List.mem_cons_of_mem _ (List.mem_cons_of_mem _ (List.mem_cons_of_mem _ (List.mem_cons_of_mem _ (List.mem_cons_of_mem _ (List.mem_cons_of_mem _ (List.mem_cons_of_mem _ (List.mem_cons_of_mem _ (List.mem_cons_of_mem _ (List.mem_cons_of_mem _ (List.mem_cons_of_mem _ (List.mem_cons_of_mem _ (List.mem_cons_of_mem _ (List.mem_cons_of_mem _ (List.mem_cons_of_mem _ (List.mem_cons_of_mem _ List.mem_cons_self))))))))))))))))
  have k_q31 : h119 q31 = some (.inl (gc G 0, 200, .inl (fun _ => 0))) := kz1 _ (List.mem_cons_of_mem _ (List.mem_cons_of_mem _ (List.mem_cons_of_mem _ (List.mem_cons_of_mem _ (List.mem_cons_of_mem _ (List.mem_cons_of_mem _ (List.mem_cons_of_mem _ (List.mem_cons_of_mem _ (List.mem_cons_of_mem _ (List.mem_cons_of_mem _ (List.mem_cons_of_mem _ (List.mem_cons_of_mem _ (List.mem_cons_of_mem _ (List.mem_cons_of_mem _ (List.mem_cons_of_mem _ (List.mem_cons_of_mem _ (List.mem_cons_of_mem _ List.mem_cons_self)))))))))))))))))
  have k_q26 : h119 q26 = some (.inl (gc G 0, 10, .inl (fun _ => 0))) := kz1 _ (List.mem_cons_of_mem _ (List.mem_cons_of_mem _ (List.mem_cons_of_mem _ (List.mem_cons_of_mem _ (List.mem_cons_of_mem _ (List.mem_cons_of_mem _ (List.mem_cons_of_mem _ (List.mem_cons_of_mem _ (List.mem_cons_of_mem _ (List.mem_cons_of_mem _ (List.mem_cons_of_mem _ (List.mem_cons_of_mem _ (List.mem_cons_of_mem _ (List.mem_cons_of_mem _ (List.mem_cons_of_mem _ (List.mem_cons_of_mem _ (List.mem_cons_of_mem _ (List.mem_cons_of_mem _ List.mem_cons_self))))))))))))))))))
  have k_q21 : h119 q21 = some (.inl (gc G 0, 512, .inl (fun _ => 0))) := kz1 _ (List.mem_cons_of_mem _ (List.mem_cons_of_mem _ (List.mem_cons_of_mem _ (List.mem_cons_of_mem _ (List.mem_cons_of_mem _ (List.mem_cons_of_mem _ (List.mem_cons_of_mem _ (List.mem_cons_of_mem _ (List.mem_cons_of_mem _ (List.mem_cons_of_mem _ (List.mem_cons_of_mem _ (List.mem_cons_of_mem _ (List.mem_cons_of_mem _ (List.mem_cons_of_mem _ (List.mem_cons_of_mem _ (List.mem_cons_of_mem _ (List.mem_cons_of_mem _ (List.mem_cons_of_mem _ (List.mem_cons_of_mem _ List.mem_cons_self)))))))))))))))))))
  have k_q16 : h119 q16 = some (.inl (gc G 0, 512, .inl (fun _ => 0))) := kz1 _ (List.mem_cons_of_mem _ (List.mem_cons_of_mem _ (List.mem_cons_of_mem _ (List.mem_cons_of_mem _ (List.mem_cons_of_mem _ (List.mem_cons_of_mem _ (List.mem_cons_of_mem _ (List.mem_cons_of_mem _ (List.mem_cons_of_mem _ (List.mem_cons_of_mem _ (List.mem_cons_of_mem _ (List.mem_cons_of_mem _ (List.mem_cons_of_mem _ (List.mem_cons_of_mem _ (List.mem_cons_of_mem _ (List.mem_cons_of_mem _ (List.mem_cons_of_mem _ (List.mem_cons_of_mem _ (List.mem_cons_of_mem _ (List.mem_cons_of_mem _ List.mem_cons_self))))))))))))))))))))
  have k_q11 : h119 q11 = some (.inl (gc G 0, 8, .inl (fun _ => 0))) := kz1 _ (List.mem_cons_of_mem _ (List.mem_cons_of_mem _ (List.mem_cons_of_mem _ (List.mem_cons_of_mem _ (List.mem_cons_of_mem _ (List.mem_cons_of_mem _ (List.mem_cons_of_mem _ (List.mem_cons_of_mem _ (List.mem_cons_of_mem _ (List.mem_cons_of_mem _ (List.mem_cons_of_mem _ (List.mem_cons_of_mem _ (List.mem_cons_of_mem _ (List.mem_cons_of_mem _ (List.mem_cons_of_mem _ (List.mem_cons_of_mem _ (List.mem_cons_of_mem _ (List.mem_cons_of_mem _ (List.mem_cons_of_mem _ (List.mem_cons_of_mem _ (List.mem_cons_of_mem _ List.mem_cons_self)))))))))))))))))))))
  have k_q6 : h119 q6 = some (.inl (gc G 0, 8, .inl (fun _ => 0))) := kz1 _ (List.mem_cons_of_mem _ (List.mem_cons_of_mem _ (List.mem_cons_of_mem _ (List.mem_cons_of_mem _ (List.mem_cons_of_mem _ (List.mem_cons_of_mem _ (List.mem_cons_of_mem _ (List.mem_cons_of_mem _ (List.mem_cons_of_mem _ (List.mem_cons_of_mem _ (List.mem_cons_of_mem _ (List.mem_cons_of_mem _ (List.mem_cons_of_mem _ (List.mem_cons_of_mem _ (List.mem_cons_of_mem _ (List.mem_cons_of_mem _ (List.mem_cons_of_mem _ (List.mem_cons_of_mem _ (List.mem_cons_of_mem _ (List.mem_cons_of_mem _ (List.mem_cons_of_mem _ (List.mem_cons_of_mem _ List.mem_cons_self))))))))))))))))))))))
  have k_q1 : h119 q1 = some (.inl (gc G 0, 120, .inl (fun _ => 0))) := kz1 _ (List.mem_cons_of_mem _ (List.mem_cons_of_mem _ (List.mem_cons_of_mem _ (List.mem_cons_of_mem _ (List.mem_cons_of_mem _ (List.mem_cons_of_mem _ (List.mem_cons_of_mem _ (List.mem_cons_of_mem _ (List.mem_cons_of_mem _ (List.mem_cons_of_mem _ (List.mem_cons_of_mem _ (List.mem_cons_of_mem _ (List.mem_cons_of_mem _ (List.mem_cons_of_mem _ (List.mem_cons_of_mem _ (List.mem_cons_of_mem _ (List.mem_cons_of_mem _ (List.mem_cons_of_mem _ (List.mem_cons_of_mem _ (List.mem_cons_of_mem _ (List.mem_cons_of_mem _ (List.mem_cons_of_mem _ (List.mem_cons_of_mem _ List.mem_cons_self)))))))))))))))))))))))
  have hnd : [q116, q111, q106, q101, q96, q91, q86, q81, q76, q71, q66, q61, q56, q51, q46, q41, q36, q31, q26, q21, q16, q11, q6, q1].Nodup := kz2
  have hmm : ¬ m ∈ [q116, q111, q106, q101, q96, q91, q86, q81, q76, q71, q66, q61, q56, q51, q46, q41, q36, q31, q26, q21, q16, q11, q6, q1] := kz3
  refine v_iconst (v := (nI 0)) C dX5_init_204 (by decide) ?_
  refine v_istore_n C [(1, .int (nI 0)), (0, .ref m)] rfl (by decide) dX5_init_205 rfl ?_
  have L121 : ∀ (d : Nat) (i : Nat) (f2 : Nat → Int32) (hf2 : zH), (i ≤ 120) → (hf2 m = some (.inr (8, [.int 0, .ref q1, .int 0, .ref q6, .ref q11, .ref q16, .ref q21, .int 0, .ref q26, .ref q31, .ref q36, .ref q41, .ref q46, .ref q51, .ref q56, .int 0, .ref q61, .int 0, .ref q66, .ref q71, .ref q76, .ref q81, .ref q86, .ref q91, .ref q96, .int 0, .ref q101, .ref q106, .ref q111, .ref q116]))) → (hf2 q76 = some (.inl (gc G 0, 120, .inl f2))) → (∀ b, b ≠ q76 → hf2 b = h119 b) → (∀ j, j < i → f2 j = -1) → (121 ≤ i + d) → V zp l ze (rmm 12 24 40000) zs zm zargs zbelow zmeth zc G 2 Q hf2 (0 + 1 + 1 + 1 + 1 + 1 + 1 + 1 + 1 + 1 + 1 + 1 + 1 + 1 + 1 + 1 + 1 + 1 + 1 + 1 + 1 + 1 + 1 + 1 + 1) (0 + 120 + 8 + 8 + 512 + 512 + 10 + 200 + 12800 + 12800 + 200 + 200 + 1000 + 16 + 6 + 6 + 120 + 6 + 6 + 120 + 120 + 6 + 6 + 6 + 6) 206 [(1, .int (nI i)), (0, .ref m)] [] := by
    intro d
    induction d with
    | zero =>
      intro i f2 hf2 hif2 kmf2 klf2 kFf2 kff2 hd
      exact absurd hd (by omega)
    | succ d ih121 =>
      intro i f2 hf2 hif2 kmf2 klf2 kFf2 kff2 hd
      refine v_iload_n C 0 rfl dX5_init_206 rfl ?_
      refine v_bipush (v := 120) C dX5_init_207 (by decide) ?_
      refine v_icmp_ge (tgt := 225) C dX5_init_209 (by decide) (fun c122 => ?_) (fun c122 => ?_)
      · have c122 := (nk_ge (a := i) 120 (by decide) (by omega) (by decide)).mp c122
        have hv2 : ∀ j, j < 120 → f2 j = -1 := fun j hj => kff2 j (by omega)
        have ne_w : q81 ≠ q76 := nd_ne hnd (i := 7) (j := 8) (Nat.le_of_ble_eq_true rfl) (Nat.le_of_ble_eq_true rfl) (by decide)
        have k2_q81 : hf2 q81 = some (.inl (gc G 0, 6, .inl (fun _ => 0))) := by rw [kFf2 _ ne_w]; exact k_q81
        refine v_iconst (v := (nI 0)) C dX5_init_225 (by decide) ?_
        refine v_istore_n C [(1, .int (nI 0)), (0, .ref m)] rfl (by decide) dX5_init_226 rfl ?_
        have L123 : ∀ (d : Nat) (i : Nat) (f3 : Nat → Int32) (hf3 : zH), (i ≤ 6) → (hf3 m = some (.inr (8, [.int 0, .ref q1, .int 0, .ref q6, .ref q11, .ref q16, .ref q21, .int 0, .ref q26, .ref q31, .ref q36, .ref q41, .ref q46, .ref q51, .ref q56, .int 0, .ref q61, .int 0, .ref q66, .ref q71, .ref q76, .ref q81, .ref q86, .ref q91, .ref q96, .int 0, .ref q101, .ref q106, .ref q111, .ref q116]))) → (hf3 q81 = some (.inl (gc G 0, 6, .inl f3))) → (∀ b, b ≠ q81 → hf3 b = hf2 b) → (∀ j, j < i → f3 j = -1) → (7 ≤ i + d) → V zp l ze (rmm 12 24 40000) zs zm zargs zbelow zmeth zc G 2 Q hf3 (0 + 1 + 1 + 1 + 1 + 1 + 1 + 1 + 1 + 1 + 1 + 1 + 1 + 1 + 1 + 1 + 1 + 1 + 1 + 1 + 1 + 1 + 1 + 1 + 1) (0 + 120 + 8 + 8 + 512 + 512 + 10 + 200 + 12800 + 12800 + 200 + 200 + 1000 + 16 + 6 + 6 + 120 + 6 + 6 + 120 + 120 + 6 + 6 + 6 + 6) 227 [(1, .int (nI i)), (0, .ref m)] [] := by
          intro d
          induction d with
          | zero =>
            intro i f3 hf3 hif3 kmf3 klf3 kFf3 kff3 hd
            exact absurd hd (by omega)
          | succ d ih123 =>
            intro i f3 hf3 hif3 kmf3 klf3 kFf3 kff3 hd
            refine v_iload_n C 0 rfl dX5_init_227 rfl ?_
            refine v_bipush (v := 6) C dX5_init_228 (by decide) ?_
            refine v_icmp_ge (tgt := 246) C dX5_init_230 (by decide) (fun c124 => ?_) (fun c124 => ?_)
            · have c124 := (nk_ge (a := i) 6 (by decide) (by omega) (by decide)).mp c124
              have hv3 : ∀ j, j < 6 → f3 j = -1 := fun j hj => kff3 j (by omega)
              have z_q116 : hf3 q116 = some (.inl (gc G 1, 6, .inr (.inl (fun _ => 0)))) := (kFf3 q116 (nd_ne hnd (i := 0) (j := 7) (Nat.le_of_ble_eq_true rfl) (Nat.le_of_ble_eq_true rfl) (by decide))).trans ((kFf2 q116 (nd_ne hnd (i := 0) (j := 8) (Nat.le_of_ble_eq_true rfl) (Nat.le_of_ble_eq_true rfl) (by decide))).trans k_q116)
              have z_q111 : hf3 q111 = some (.inl (gc G 0, 6, .inl (fun _ => 0))) := (kFf3 q111 (nd_ne hnd (i := 1) (j := 7) (Nat.le_of_ble_eq_true rfl) (Nat.le_of_ble_eq_true rfl) (by decide))).trans ((kFf2 q111 (nd_ne hnd (i := 1) (j := 8) (Nat.le_of_ble_eq_true rfl) (Nat.le_of_ble_eq_true rfl) (by decide))).trans k_q111)
              have z_q106 : hf3 q106 = some (.inl (gc G 0, 6, .inl (fun _ => 0))) := (kFf3 q106 (nd_ne hnd (i := 2) (j := 7) (Nat.le_of_ble_eq_true rfl) (Nat.le_of_ble_eq_true rfl) (by decide))).trans ((kFf2 q106 (nd_ne hnd (i := 2) (j := 8) (Nat.le_of_ble_eq_true rfl) (Nat.le_of_ble_eq_true rfl) (by decide))).trans k_q106)
              have z_q101 : hf3 q101 = some (.inl (gc G 0, 6, .inl (fun _ => 0))) := (kFf3 q101 (nd_ne hnd (i := 3) (j := 7) (Nat.le_of_ble_eq_true rfl) (Nat.le_of_ble_eq_true rfl) (by decide))).trans ((kFf2 q101 (nd_ne hnd (i := 3) (j := 8) (Nat.le_of_ble_eq_true rfl) (Nat.le_of_ble_eq_true rfl) (by decide))).trans k_q101)
              have z_q96 : hf3 q96 = some (.inl (gc G 4, 120, .inl (fun _ => 0))) := (kFf3 q96 (nd_ne hnd (i := 4) (j := 7) (Nat.le_of_ble_eq_true rfl) (Nat.le_of_ble_eq_true rfl) (by decide))).trans ((kFf2 q96 (nd_ne hnd (i := 4) (j := 8) (Nat.le_of_ble_eq_true rfl) (Nat.le_of_ble_eq_true rfl) (by decide))).trans k_q96)
              have z_q91 : hf3 q91 = some (.inl (gc G 0, 120, .inl (fun _ => 0))) := (kFf3 q91 (nd_ne hnd (i := 5) (j := 7) (Nat.le_of_ble_eq_true rfl) (Nat.le_of_ble_eq_true rfl) (by decide))).trans ((kFf2 q91 (nd_ne hnd (i := 5) (j := 8) (Nat.le_of_ble_eq_true rfl) (Nat.le_of_ble_eq_true rfl) (by decide))).trans k_q91)
              have z_q86 : hf3 q86 = some (.inl (gc G 0, 6, .inl (fun _ => 0))) := (kFf3 q86 (nd_ne hnd (i := 6) (j := 7) (Nat.le_of_ble_eq_true rfl) (Nat.le_of_ble_eq_true rfl) (by decide))).trans ((kFf2 q86 (nd_ne hnd (i := 6) (j := 8) (Nat.le_of_ble_eq_true rfl) (Nat.le_of_ble_eq_true rfl) (by decide))).trans k_q86)
              have z_q81 := klf3
              have z_q76 : hf3 q76 = some (.inl (gc G 0, 120, .inl f2)) := (kFf3 q76 (nd_ne hnd (i := 8) (j := 7) (Nat.le_of_ble_eq_true rfl) (Nat.le_of_ble_eq_true rfl) (by decide))).trans klf2
              have z_q71 : hf3 q71 = some (.inl (gc G 0, 6, .inl (fun _ => 0))) := (kFf3 q71 (nd_ne hnd (i := 9) (j := 7) (Nat.le_of_ble_eq_true rfl) (Nat.le_of_ble_eq_true rfl) (by decide))).trans ((kFf2 q71 (nd_ne hnd (i := 9) (j := 8) (Nat.le_of_ble_eq_true rfl) (Nat.le_of_ble_eq_true rfl) (by decide))).trans k_q71)
              have z_q66 : hf3 q66 = some (.inl (gc G 0, 6, .inl (fun _ => 0))) := (kFf3 q66 (nd_ne hnd (i := 10) (j := 7) (Nat.le_of_ble_eq_true rfl) (Nat.le_of_ble_eq_true rfl) (by decide))).trans ((kFf2 q66 (nd_ne hnd (i := 10) (j := 8) (Nat.le_of_ble_eq_true rfl) (Nat.le_of_ble_eq_true rfl) (by decide))).trans k_q66)
              have z_q61 : hf3 q61 = some (.inl (gc G 0, 16, .inl (fun _ => 0))) := (kFf3 q61 (nd_ne hnd (i := 11) (j := 7) (Nat.le_of_ble_eq_true rfl) (Nat.le_of_ble_eq_true rfl) (by decide))).trans ((kFf2 q61 (nd_ne hnd (i := 11) (j := 8) (Nat.le_of_ble_eq_true rfl) (Nat.le_of_ble_eq_true rfl) (by decide))).trans k_q61)
              have z_q56 : hf3 q56 = some (.inl (gc G 3, 1000, .inl (fun _ => 0))) := (kFf3 q56 (nd_ne hnd (i := 12) (j := 7) (Nat.le_of_ble_eq_true rfl) (Nat.le_of_ble_eq_true rfl) (by decide))).trans ((kFf2 q56 (nd_ne hnd (i := 12) (j := 8) (Nat.le_of_ble_eq_true rfl) (Nat.le_of_ble_eq_true rfl) (by decide))).trans k_q56)
              have z_q51 : hf3 q51 = some (.inl (gc G 1, 200, .inr (.inl (fun _ => 0)))) := (kFf3 q51 (nd_ne hnd (i := 13) (j := 7) (Nat.le_of_ble_eq_true rfl) (Nat.le_of_ble_eq_true rfl) (by decide))).trans ((kFf2 q51 (nd_ne hnd (i := 13) (j := 8) (Nat.le_of_ble_eq_true rfl) (Nat.le_of_ble_eq_true rfl) (by decide))).trans k_q51)
              have z_q46 : hf3 q46 = some (.inl (gc G 1, 200, .inr (.inl (fun _ => 0)))) := (kFf3 q46 (nd_ne hnd (i := 14) (j := 7) (Nat.le_of_ble_eq_true rfl) (Nat.le_of_ble_eq_true rfl) (by decide))).trans ((kFf2 q46 (nd_ne hnd (i := 14) (j := 8) (Nat.le_of_ble_eq_true rfl) (Nat.le_of_ble_eq_true rfl) (by decide))).trans k_q46)
              have z_q41 : hf3 q41 = some (.inl (gc G 0, 12800, .inl (fun _ => 0))) := (kFf3 q41 (nd_ne hnd (i := 15) (j := 7) (Nat.le_of_ble_eq_true rfl) (Nat.le_of_ble_eq_true rfl) (by decide))).trans ((kFf2 q41 (nd_ne hnd (i := 15) (j := 8) (Nat.le_of_ble_eq_true rfl) (Nat.le_of_ble_eq_true rfl) (by decide))).trans k_q41)
              have z_q36 : hf3 q36 = some (.inl (gc G 0, 12800, .inl (fun _ => 0))) := (kFf3 q36 (nd_ne hnd (i := 16) (j := 7) (Nat.le_of_ble_eq_true rfl) (Nat.le_of_ble_eq_true rfl) (by decide))).trans ((kFf2 q36 (nd_ne hnd (i := 16) (j := 8) (Nat.le_of_ble_eq_true rfl) (Nat.le_of_ble_eq_true rfl) (by decide))).trans k_q36)
              have z_q31 : hf3 q31 = some (.inl (gc G 0, 200, .inl (fun _ => 0))) := (kFf3 q31 (nd_ne hnd (i := 17) (j := 7) (Nat.le_of_ble_eq_true rfl) (Nat.le_of_ble_eq_true rfl) (by decide))).trans ((kFf2 q31 (nd_ne hnd (i := 17) (j := 8) (Nat.le_of_ble_eq_true rfl) (Nat.le_of_ble_eq_true rfl) (by decide))).trans k_q31)
              have z_q26 : hf3 q26 = some (.inl (gc G 0, 10, .inl (fun _ => 0))) := (kFf3 q26 (nd_ne hnd (i := 18) (j := 7) (Nat.le_of_ble_eq_true rfl) (Nat.le_of_ble_eq_true rfl) (by decide))).trans ((kFf2 q26 (nd_ne hnd (i := 18) (j := 8) (Nat.le_of_ble_eq_true rfl) (Nat.le_of_ble_eq_true rfl) (by decide))).trans k_q26)
              have z_q21 : hf3 q21 = some (.inl (gc G 0, 512, .inl (fun _ => 0))) := (kFf3 q21 (nd_ne hnd (i := 19) (j := 7) (Nat.le_of_ble_eq_true rfl) (Nat.le_of_ble_eq_true rfl) (by decide))).trans ((kFf2 q21 (nd_ne hnd (i := 19) (j := 8) (Nat.le_of_ble_eq_true rfl) (Nat.le_of_ble_eq_true rfl) (by decide))).trans k_q21)
              have z_q16 : hf3 q16 = some (.inl (gc G 0, 512, .inl (fun _ => 0))) := (kFf3 q16 (nd_ne hnd (i := 20) (j := 7) (Nat.le_of_ble_eq_true rfl) (Nat.le_of_ble_eq_true rfl) (by decide))).trans ((kFf2 q16 (nd_ne hnd (i := 20) (j := 8) (Nat.le_of_ble_eq_true rfl) (Nat.le_of_ble_eq_true rfl) (by decide))).trans k_q16)
              have z_q11 : hf3 q11 = some (.inl (gc G 0, 8, .inl (fun _ => 0))) := (kFf3 q11 (nd_ne hnd (i := 21) (j := 7) (Nat.le_of_ble_eq_true rfl) (Nat.le_of_ble_eq_true rfl) (by decide))).trans ((kFf2 q11 (nd_ne hnd (i := 21) (j := 8) (Nat.le_of_ble_eq_true rfl) (Nat.le_of_ble_eq_true rfl) (by decide))).trans k_q11)
              have z_q6 : hf3 q6 = some (.inl (gc G 0, 8, .inl (fun _ => 0))) := (kFf3 q6 (nd_ne hnd (i := 22) (j := 7) (Nat.le_of_ble_eq_true rfl) (Nat.le_of_ble_eq_true rfl) (by decide))).trans ((kFf2 q6 (nd_ne hnd (i := 22) (j := 8) (Nat.le_of_ble_eq_true rfl) (Nat.le_of_ble_eq_true rfl) (by decide))).trans k_q6)
              have z_q1 : hf3 q1 = some (.inl (gc G 0, 120, .inl (fun _ => 0))) := (kFf3 q1 (nd_ne hnd (i := 23) (j := 7) (Nat.le_of_ble_eq_true rfl) (Nat.le_of_ble_eq_true rfl) (by decide))).trans ((kFf2 q1 (nd_ne hnd (i := 23) (j := 8) (Nat.le_of_ble_eq_true rfl) (Nat.le_of_ble_eq_true rfl) (by decide))).trans k_q1)
              let LL : List Nat := [q116, q111, q106, q101, q96, q91, q86, q81, q76, q71, q66, q61, q56, q51, q46, q41, q36, q31, q26, q21, q16, q11, q6, q1]
              have mrN : ∀ k, mNat k = true → hf3 (adL LL k) = some (.inl (gc G (mT k), mN k, .inl (fun j => nI ((fun _ _ => 0 : Nat → Nat → Nat) k j)))) := fun k h => by
                  simp only [mNat, Bool.or_eq_true, beq_iff_eq] at h
                  rcases h with (((((((((((h | h) | h) | h) | h) | h) | h) | h) | h) | h) | h) | h) | h
                  · subst h; exact z_q6
                  · subst h; exact z_q11
                  · subst h; exact z_q16
                  · subst h; exact z_q21
                  · subst h; exact z_q26
                  · subst h; exact z_q31
                  · subst h; exact z_q36
                  · subst h; exact z_q41
                  · subst h; exact z_q56
                  · subst h; exact z_q61
                  · subst h; exact z_q66
                  · subst h; exact z_q71
                  · subst h; exact z_q106
              have mrI : ∀ k, mInt k = true → hf3 (adL LL k) = some (.inl (gc G (mT k), mN k, .inl ((up2 (up2 (fun _ _ => 0) 20 f2) 21 f3 : Nat → Nat → Int32) k))) := fun k h => by
                  simp only [mInt, Bool.or_eq_true, beq_iff_eq] at h
                  rcases h with ((((((h | h) | h) | h) | h) | h) | h) | h
                  · subst h; exact z_q1
                  · subst h; exact z_q76
                  · subst h; exact z_q81
                  · subst h; exact z_q86
                  · subst h; exact z_q91
                  · subst h; exact z_q96
                  · subst h; exact z_q101
                  · subst h; exact z_q111
              have mrL : ∀ k, mLng k = true → hf3 (adL LL k) = some (.inl (gc G 1, mN k, .inr (.inl ((fun _ _ => 0 : Nat → Nat → Int64) k)))) := fun k h => by
                  simp only [mLng, Bool.or_eq_true, beq_iff_eq] at h
                  rcases h with (h | h) | h
                  · subst h; exact z_q46
                  · subst h; exact z_q51
                  · subst h; exact z_q116
              have hnone : ∀ k, k < 30 → mArr k = true → h (adL LL k) = none := fun k hk ha => by
                  have hp := posL_ok k hk ha
                  have hm2 : adL LL k ∈ LL := by
                    unfold adL; rw [if_pos ha, List.getD_eq_getElem?_getD, List.getElem?_eq_getElem (show posL k < LL.length from hp)]; exact List.getElem_mem _
                  have hm3 : adL LL k ∈ ([(q116, .inl (gc G 1, 6, .inr (.inl (fun _ => 0)))), (q111, .inl (gc G 0, 6, .inl (fun _ => 0))), (q106, .inl (gc G 0, 6, .inl (fun _ => 0))), (q101, .inl (gc G 0, 6, .inl (fun _ => 0))), (q96, .inl (gc G 4, 120, .inl (fun _ => 0))), (q91, .inl (gc G 0, 120, .inl (fun _ => 0))), (q86, .inl (gc G 0, 6, .inl (fun _ => 0))), (q81, .inl (gc G 0, 6, .inl (fun _ => 0))), (q76, .inl (gc G 0, 120, .inl (fun _ => 0))), (q71, .inl (gc G 0, 6, .inl (fun _ => 0))), (q66, .inl (gc G 0, 6, .inl (fun _ => 0))), (q61, .inl (gc G 0, 16, .inl (fun _ => 0))), (q56, .inl (gc G 3, 1000, .inl (fun _ => 0))), (q51, .inl (gc G 1, 200, .inr (.inl (fun _ => 0)))), (q46, .inl (gc G 1, 200, .inr (.inl (fun _ => 0)))), (q41, .inl (gc G 0, 12800, .inl (fun _ => 0))), (q36, .inl (gc G 0, 12800, .inl (fun _ => 0))), (q31, .inl (gc G 0, 200, .inl (fun _ => 0))), (q26, .inl (gc G 0, 10, .inl (fun _ => 0))), (q21, .inl (gc G 0, 512, .inl (fun _ => 0))), (q16, .inl (gc G 0, 512, .inl (fun _ => 0))), (q11, .inl (gc G 0, 8, .inl (fun _ => 0))), (q6, .inl (gc G 0, 8, .inl (fun _ => 0))), (q1, .inl (gc G 0, 120, .inl (fun _ => 0)))] : List (Nat × va_E)).map Prod.fst := hm2
                  obtain ⟨p, hp1, hp2⟩ := List.mem_map.mp hm3
                  rw [← hp2]; exact kz4 p hp1
              have hkp : zKp (fun b => b = m) h hf3 := fun b e hb he => by
                  have hk := kz5 b e hb he
                  have n1 : ∀ a, h a = none → b ≠ a := fun a ha z => by rw [← z, he] at ha; cases ha
                  rw [kFf3 _ (n1 _ (kz4 (q81, .inl (gc G 0, 6, .inl (fun _ => 0))) (List.mem_cons_of_mem _ (List.mem_cons_of_mem _ (List.mem_cons_of_mem _ (List.mem_cons_of_mem _ (List.mem_cons_of_mem _ (List.mem_cons_of_mem _ (List.mem_cons_of_mem _ List.mem_cons_self))))))))), kFf2 _ (n1 _ (kz4 (q76, .inl (gc G 0, 120, .inl (fun _ => 0))) (List.mem_cons_of_mem _ (List.mem_cons_of_mem _ (List.mem_cons_of_mem _ (List.mem_cons_of_mem _ (List.mem_cons_of_mem _ (List.mem_cons_of_mem _ (List.mem_cons_of_mem _ (List.mem_cons_of_mem _ List.mem_cons_self))))))))))]; exact hk
              exact v_vret C hQ hr (Nat.le_of_ble_eq_true rfl) (Nat.le_of_ble_eq_true rfl) dX5_init_246 ⟨adL LL, ⟨fun _ => 0, fun _ _ => 0, up2 (up2 (fun _ _ => 0) 20 f2) 21 f3, fun _ _ => 0, ⟨kmf3, mrN, mrI, mrL, adL_inj hnd rfl, fun _ _ _ => rfl⟩, MS0 hv2 hv3, rfl⟩, hnone, hkp⟩
            · have c124 := (nk_ge_f (a := i) 6 (by decide) (by omega) (by decide)).mp c124
              refine v_aload_n C 1 rfl dX5_init_233 rfl ?_
              refine v_get (v := .ref q81) C F_X5_60 kmf3 rfl dX5_init_234 ?_
              refine v_iload_n C 0 rfl dX5_init_237 rfl ?_
              refine v_iconst (v := (-1)) C dX5_init_238 (by decide) ?_
              refine v_iast C klf3 (vpin (by omega) (by decide)) dX5_init_239 (v_nw (fun h125 eh125 => ?_))
              have k126 : h125 m = some (.inr (8, [.int 0, .ref q1, .int 0, .ref q6, .ref q11, .ref q16, .ref q21, .int 0, .ref q26, .ref q31, .ref q36, .ref q41, .ref q46, .ref q51, .ref q56, .int 0, .ref q61, .int 0, .ref q66, .ref q71, .ref q76, .ref q81, .ref q86, .ref q91, .ref q96, .int 0, .ref q101, .ref q106, .ref q111, .ref q116])) := by rw [eh125, zup_ne _ _ (zne_new nq81 k80)]; exact kmf3
              have k127 : h125 q81 = some (.inl (gc G 0, 6, .inl (upd f3 (nI i).toNatClampNeg (-1)))) := by rw [eh125]; exact zup_self _ _ _
              refine v_iinc C 0 [(1, .int (nI (i + 1))), (0, .ref m)] rfl (nI_inc i 1 (by decide)) rfl (by decide) dX5_init_240 ?_
              refine v_goto (tgt := 227) C dX5_init_243 (by decide) ?_
              refine v_lvp [0, 1] rfl ?_
              exact ih123 (i + 1) _ h125 (by omega) k126 k127 (fun b hb => by rw [eh125, zup_ne _ _ hb]; exact kFf3 b hb) (fun j hj => by
                    rw [nI_clamp (by omega)]
                    by_cases q : j = i
                    · subst q; exact pk_us
                    · rw [pk_un q]; exact kff3 j (by omega)) (by omega)
        refine v_lvp [0, 1] rfl ?_
        exact L123 7 0 (fun _ => 0) hf2 (by omega) kmf2 k2_q81 (fun _ _ => rfl) (fun j hj => absurd hj (by omega)) (by omega)
      · have c122 := (nk_ge_f (a := i) 120 (by decide) (by omega) (by decide)).mp c122
        refine v_aload_n C 1 rfl dX5_init_212 rfl ?_
        refine v_get (v := .ref q76) C F_X5_57 kmf2 rfl dX5_init_213 ?_
        refine v_iload_n C 0 rfl dX5_init_216 rfl ?_
        refine v_iconst (v := (-1)) C dX5_init_217 (by decide) ?_
        refine v_iast C klf2 (vpin (by omega) (by decide)) dX5_init_218 (v_nw (fun h129 eh129 => ?_))
        have k130 : h129 m = some (.inr (8, [.int 0, .ref q1, .int 0, .ref q6, .ref q11, .ref q16, .ref q21, .int 0, .ref q26, .ref q31, .ref q36, .ref q41, .ref q46, .ref q51, .ref q56, .int 0, .ref q61, .int 0, .ref q66, .ref q71, .ref q76, .ref q81, .ref q86, .ref q91, .ref q96, .int 0, .ref q101, .ref q106, .ref q111, .ref q116])) := by rw [eh129, zup_ne _ _ (zne_new nq76 k75)]; exact kmf2
        have k131 : h129 q76 = some (.inl (gc G 0, 120, .inl (upd f2 (nI i).toNatClampNeg (-1)))) := by rw [eh129]; exact zup_self _ _ _
        refine v_iinc C 0 [(1, .int (nI (i + 1))), (0, .ref m)] rfl (nI_inc i 1 (by decide)) rfl (by decide) dX5_init_219 ?_
        refine v_goto (tgt := 206) C dX5_init_222 (by decide) ?_
        refine v_lvp [0, 1] rfl ?_
        exact ih121 (i + 1) _ h129 (by omega) k130 k131 (fun b hb => by rw [eh129, zup_ne _ _ hb]; exact kFf2 b hb) (fun j hj => by
              rw [nI_clamp (by omega)]
              by_cases q : j = i
              · subst q; exact pk_us
              · rw [pk_un q]; exact kff2 j (by omega)) (by omega)
  refine v_lvp [0, 1] rfl ?_
  exact L121 121 0 (fun _ => 0) h119 (by omega) k120 k_q76 (fun _ _ => rfl) (fun j hj => absurd hj (by omega)) (by omega)

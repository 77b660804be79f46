set_option maxHeartbeats 4000000 in
set_option maxRecDepth 100000 in
theorem law_start {p : Program} {l : Launch} {e : Env} {s : State} {m : MethodId} {args : Array Value} {below : List Frame} {meth : Method} {c : Code} {G : zG} (hl : l.stackTraces = false) (C : zOK p l e room_1 s m args below meth c G cL_law 8 RL) (hNc : zNc s) {sb L : Nat} {xs : Nat → Int32} (hX : va_X sb L xs s s.heap ∧ sb < s.heap.size ∧ sb < gN G) (hL : L ≤ 2048) {Q : State → Prop} (fin : ∀ (h2 : zH) (lv2 : List (Nat × Value)), V p l e room_1 s m args below meth c G 8 Q h2 601024 7293034 1804 lv2 [.int 1]) : V p l e room_1 s m args below meth c G 8 Q (fun _ => none) 0 0 0 [(0, .ref sb)] [] := by
  refine v_new C N_L_8 (Nat.le_of_ble_eq_true rfl) (Nat.le_of_ble_eq_true rfl) dL_law_0 (fun q1 gq1 nq1 => v_nw (fun h1 eh1 => ?_))
  have k2 : h1 q1 = some (.inr (7, [.null, .null, .null, .null, .null])) := by rw [eh1]; exact zup_self _ _ _
  refine v_dup C dL_law_3 rfl ?_
  refine v_callI (rest := [.ref q1]) C (c_X4_init l hl G q1 h1 k2) I_L_95 rfl rfl (Nat.le_of_ble_eq_true rfl) ⟨Nat.le_of_ble_eq_true rfl, Nat.le_of_ble_eq_true rfl⟩ ⟨Nat.le_of_ble_eq_true rfl, Nat.le_of_ble_eq_true rfl⟩ dL_law_4 (fun h3 w3 => ?_)
  obtain ⟨gx, xi, hr, kp1⟩ := w3
  have hr2 : ∀ b, qR gx b ≠ (0, 0) → ∃ e, h3 b = some e := fun b hb => by
    rcases hr b hb with rfl | ⟨-, y⟩
    · exact ⟨_, xi.1.1.1⟩
    · exact y
  refine v_astore_n C [(1, .ref q1), (0, .ref sb)] rfl (by decide) dL_law_7 rfl ?_
  refine v_new C N_L_96 (Nat.le_of_ble_eq_true rfl) (Nat.le_of_ble_eq_true rfl) dL_law_8 (fun q4 gq4 nq4 => v_nw (fun h4 eh4 => ?_))
  have k5 : h4 q4 = some (.inr (8, [.int 0, .null, .int 0, .null, .null, .null, .null, .int 0, .null, .null, .null, .null, .null, .null, .null, .int 0, .null, .int 0, .null, .null, .null, .null, .null, .null, .null, .int 0, .null, .null, .null, .null])) := by rw [eh4]; exact zup_self _ _ _
  refine v_dup C dL_law_11 rfl ?_
  refine v_callI (rest := [.ref q4]) C (c_X5_init l hl G q4 h4 k5) I_L_98 rfl rfl (Nat.le_of_ble_eq_true rfl) ⟨Nat.le_of_ble_eq_true rfl, Nat.le_of_ble_eq_true rfl⟩ ⟨Nat.le_of_ble_eq_true rfl, Nat.le_of_ble_eq_true rfl⟩ dL_law_12 (fun h6 w6 => ?_)
  obtain ⟨ad, mo, na, kp2⟩ := w6
  refine v_astore_n C [(2, .ref q4), (1, .ref q1), (0, .ref sb)] rfl (by decide) dL_law_15 rfl ?_
  refine v_iconst (v := 1) C dL_law_16 (by decide) ?_
  refine v_newa (atype := .long) (N := 1) (z := (1, .inr (.inl (fun _ => 0)))) C 1 rfl rfl rfl AY_long (fun cA => rfl) (by decide) (by decide) (by decide) (Nat.le_of_ble_eq_true rfl) (Nat.le_of_ble_eq_true rfl) dL_law_17 (fun q7 gq7 nq7 => v_nw (fun h7 eh7 => ?_))
  have k8 : h7 q7 = some (.inl (gc G 1, 1, .inr (.inl (fun _ => 0)))) := by rw [eh7]; exact zup_self _ _ _
  refine v_astore_n C [(3, .ref q7), (2, .ref q4), (1, .ref q1), (0, .ref sb)] rfl (by decide) dL_law_19 rfl ?_
  refine v_iconst (v := 0) C dL_law_20 (by decide) ?_
  refine v_istore C [(4, .int 0), (3, .ref q7), (2, .ref q4), (1, .ref q1), (0, .ref sb)] rfl (by decide) dL_law_21 ?_
  have li : LI G h7 gx q1 q4 q7 ad z0 := LI.start xi hr2 nq4 (by rw [eh4]; exact fun b e _ hb => (zup_ne _ _ (zne_new nq4 hb)).trans hb) mo na kp2 nq7 eh7
  refine v_lvp [0, 4, 3, 2, 1] rfl ?_
  exact v_widen (by decide) (by decide) (law_loop hl C hNc hX hL fin L 0 h7 gx ad z0 li (by omega) (by omega))

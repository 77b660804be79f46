theorem ro6 {ro : Nat → Nat} (hj : ∀ i j, i < 6 → j < 6 → ro i = ro j → i = j) : ∀ i, i < 6 → nrA (ro 0) (2, 0) (nrA (ro 1) (2, 1) (nrA (ro 2) (2, 2) (nrA (ro 3) (2, 3) (nrA (ro 4) (2, 4) (nrA (ro 5) (2, 5) nr0))))) (ro i) = (2, i) := by
  intro i hi
  have n : ∀ a b, a < 6 → b < 6 → a ≠ b → ro a ≠ ro b := fun a b ha hb h e => h (hj a b ha hb e)
  match i, hi with
  | 0, _ => exact nrA_s
  | 1, _ => exact (nrA_n (n 1 0 (by decide) (by decide) (by decide))).trans nrA_s
  | 2, _ => exact (nrA_n (n 2 0 (by decide) (by decide) (by decide))).trans ((nrA_n (n 2 1 (by decide) (by decide) (by decide))).trans nrA_s)
  | 3, _ => exact (nrA_n (n 3 0 (by decide) (by decide) (by decide))).trans ((nrA_n (n 3 1 (by decide) (by decide) (by decide))).trans ((nrA_n (n 3 2 (by decide) (by decide) (by decide))).trans nrA_s))
  | 4, _ => exact (nrA_n (n 4 0 (by decide) (by decide) (by decide))).trans ((nrA_n (n 4 1 (by decide) (by decide) (by decide))).trans ((nrA_n (n 4 2 (by decide) (by decide) (by decide))).trans ((nrA_n (n 4 3 (by decide) (by decide) (by decide))).trans nrA_s)))
  | 5, _ => exact (nrA_n (n 5 0 (by decide) (by decide) (by decide))).trans ((nrA_n (n 5 1 (by decide) (by decide) (by decide))).trans ((nrA_n (n 5 2 (by decide) (by decide) (by decide))).trans ((nrA_n (n 5 3 (by decide) (by decide) (by decide))).trans ((nrA_n (n 5 4 (by decide) (by decide) (by decide))).trans nrA_s))))
theorem nrA_or {a b : Nat} {r : Nat × Nat} {n : Nat → Nat × Nat} : nrA a r n b ≠ (0, 0) → b = a ∨ n b ≠ (0, 0) := fun z => by
  by_cases y : b = a
  · exact Or.inl y
  · exact Or.inr (by rw [nrA_n y] at z; exact z)
theorem nrA_no {a b : Nat} {r t : Nat × Nat} {n : Nat → Nat × Nat} (h : r ≠ t) (k : n b ≠ t) : nrA a r n b ≠ t := fun z => by
  by_cases y : b = a
  · rw [y, nrA_s] at z; exact h z
  · rw [nrA_n y] at z; exact k z
def gX0 (x qo l0 l1 l2 l3 : Nat) (ro : Nat → Nat) (n0 : Nat) : XGh := (nrA x (1, 1) (nrA qo (1, 0) (nrA l0 (14, 0) (nrA l1 (14, 1) (nrA l2 (14, 2) (nrA l3 (14, 3) (nrA (ro 0) (2, 0) (nrA (ro 1) (2, 1) (nrA (ro 2) (2, 2) (nrA (ro 3) (2, 3) (nrA (ro 4) (2, 4) (nrA (ro 5) (2, 5) nr0))))))))))), fun t k => if t = 1 then qo else if t = 2 then ro k else if t = 14 then (if k = 0 then l0 else if k = 1 then l1 else if k = 2 then l2 else l3) else n0, fun _ => [], fun _ => 0, fun _ _ => 0, [])
theorem XI.init {G : zG} {h h2 : zH} {x qo l0 l1 l2 l3 : Nat} {ro : Nat → Nat} (nq : h qo = none) (nr : ∀ i, i < 6 → h (ro i) = none) (hj : ∀ i j, i < 6 → j < 6 → ro i = ro j → i = j) (n0 : h l0 = none) (n1 : h l1 = none) (n2 : h l2 = none) (n3 : h l3 = none) (d10 : l1 ≠ l0) (d20 : l2 ≠ l0) (d21 : l2 ≠ l1) (d30 : l3 ≠ l0) (d31 : l3 ≠ l1) (d32 : l3 ≠ l2)
    (kx : h2 x = some (.inr (7, [.ref qo, .ref l0, .ref l1, .ref l2, .ref l3]))) (kq : ∃ f, h2 qo = some (.inl (gc G 7, 6, .inr (.inr (.inr (.inr f))))) ∧ ∀ i, i < 6 → f i = some (ro i)) (kr : ∀ i, i < 6 → h2 (ro i) = some (cL G (fun _ => 0))) (a0 : zAL G h2 l0 (gs G 0) []) (a1 : zAL G h2 l1 (gs G 0) []) (a2 : zAL G h2 l2 (gs G 0) []) (a3 : zAL G h2 l3 (gs G 0) []) :
    ∃ g, XI G h2 g x z0 ∧ ∀ b, qR g b ≠ (0, 0) → b = x ∨ (h b = none ∧ ∃ e, h2 b = some e) := by
  obtain ⟨f, kq, kf⟩ := kq
  obtain ⟨m0, c0⟩ := a0.2.1
  obtain ⟨m1, c1⟩ := a1.2.1
  obtain ⟨m2, c2⟩ := a2.2.1
  obtain ⟨m3, c3⟩ := a3.2.1
  have xq : qo ≠ x := zne_oq kx kq
  have x0 : l0 ≠ x := zne_oo kx c0 (by decide)
  have x1 : l1 ≠ x := zne_oo kx c1 (by decide)
  have x2 : l2 ≠ x := zne_oo kx c2 (by decide)
  have x3 : l3 ≠ x := zne_oo kx c3 (by decide)
  have q0 : l0 ≠ qo := zne_qo kq c0
  have q1 : l1 ≠ qo := zne_qo kq c1
  have q2 : l2 ≠ qo := zne_qo kq c2
  have q3 : l3 ≠ qo := zne_qo kq c3
  have rx' : ∀ i, i < 6 → ro i ≠ x := fun i hi => zne_ol kx (kr i hi)
  have rq' : ∀ i, i < 6 → ro i ≠ qo := fun i hi => zne_ql kq (kr i hi)
  have r0' : ∀ i, i < 6 → ro i ≠ l0 := fun i hi => zne_ol c0 (kr i hi)
  have r1' : ∀ i, i < 6 → ro i ≠ l1 := fun i hi => zne_ol c1 (kr i hi)
  have r2' : ∀ i, i < 6 → ro i ≠ l2 := fun i hi => zne_ol c2 (kr i hi)
  have r3' : ∀ i, i < 6 → ro i ≠ l3 := fun i hi => zne_ol c3 (kr i hi)
  have no (b : Nat) : qR (gX0 x qo l0 l1 l2 l3 ro (gs G 0)) b ≠ (11, 0) := nrA_no (by decide) (nrA_no (by decide) (nrA_no (by decide) (nrA_no (by decide) (nrA_no (by decide) (nrA_no (by decide) (nrA_no (by decide) (nrA_no (by decide) (nrA_no (by decide) (nrA_no (by decide) (nrA_no (by decide) (nrA_no (by decide) (show ((0, 0) : Nat × Nat) ≠ (11, 0) by decide))))))))))))
  refine ⟨gX0 x qo l0 l1 l2 l3 ro (gs G 0), ⟨⟨⟨kx, nrA_s, (nrA_n xq).trans nrA_s, f, kq, fun i hi => kf i hi⟩, fun i hi => ⟨?_, _, kr i hi, fun q hq => rfl⟩, ⟨⟨a0, (nrA_n x0).trans ((nrA_n q0).trans nrA_s), Or.inr ⟨rfl, rfl⟩⟩, ⟨a1, (nrA_n x1).trans ((nrA_n q1).trans ((nrA_n d10).trans nrA_s)), Or.inr ⟨rfl, rfl⟩⟩, ⟨a2, (nrA_n x2).trans ((nrA_n q2).trans ((nrA_n d20).trans ((nrA_n d21).trans nrA_s))), Or.inr ⟨rfl, rfl⟩⟩, ⟨a3, (nrA_n x3).trans ((nrA_n q3).trans ((nrA_n d30).trans ((nrA_n d31).trans ((nrA_n d32).trans nrA_s)))), Or.inr ⟨rfl, rfl⟩⟩⟩, ⟨fun a ha => absurd ha List.not_mem_nil, rfl⟩, fun a ha => absurd ha (no a), fun i hi => absurd hi (Nat.not_lt_zero _), fun i hi => absurd hi (Nat.not_lt_zero _), fun i hi => absurd hi (Nat.not_lt_zero _)⟩, fun i hi => absurd hi (Nat.not_lt_zero _)⟩, fun b hb => ?_⟩
  · exact (nrA_n (rx' i hi)).trans ((nrA_n (rq' i hi)).trans ((nrA_n (r0' i hi)).trans ((nrA_n (r1' i hi)).trans ((nrA_n (r2' i hi)).trans ((nrA_n (r3' i hi)).trans (ro6 hj i hi))))))
  · have fr : ∀ i, i < 6 → b = ro i → b = x ∨ (h b = none ∧ ∃ e, h2 b = some e) := fun i hi e => Or.inr (by rw [e]; exact ⟨nr i hi, _, kr i hi⟩)
    rcases nrA_or hb with e | hb
    · exact Or.inl e
    rcases nrA_or hb with e | hb
    · exact Or.inr (by rw [e]; exact ⟨nq, _, kq⟩)
    rcases nrA_or hb with e | hb
    · exact Or.inr (by rw [e]; exact ⟨n0, _, c0⟩)
    rcases nrA_or hb with e | hb
    · exact Or.inr (by rw [e]; exact ⟨n1, _, c1⟩)
    rcases nrA_or hb with e | hb
    · exact Or.inr (by rw [e]; exact ⟨n2, _, c2⟩)
    rcases nrA_or hb with e | hb
    · exact Or.inr (by rw [e]; exact ⟨n3, _, c3⟩)
    rcases nrA_or hb with e | hb
    · exact fr 0 (by decide) e
    rcases nrA_or hb with e | hb
    · exact fr 1 (by decide) e
    rcases nrA_or hb with e | hb
    · exact fr 2 (by decide) e
    rcases nrA_or hb with e | hb
    · exact fr 3 (by decide) e
    rcases nrA_or hb with e | hb
    · exact fr 4 (by decide) e
    rcases nrA_or hb with e | hb
    · exact fr 5 (by decide) e
    exact absurd rfl hb
theorem zLL_q {G : zG} {h : zH} {q n k : Nat} {r : Nat → Nat} : zLL G h q r n k q = some (.inl (gc G 7, n, .inr (.inr (.inr (.inr (fun i => if i < n then some (r i) else none)))))) := if_pos rfl
theorem zLL_r {G : zG} {h : zH} {q n k i : Nat} {r : Nat → Nat} (hi : i < n) (hn : r i ≠ q) : zLL G h q r n k (r i) = some (.inl (gc G 1, k, .inr (.inl (fun _ => 0)))) := (if_neg hn).trans (if_pos (List.mem_map.mpr ⟨i, List.mem_range.mpr hi, rfl⟩))
theorem zLL_kp {G : zG} {h : zH} {q n k : Nat} {r : Nat → Nat} (nq : h q = none) (nr : ∀ i, i < n → h (r i) = none) : zKp (fun _ => False) h (zLL G h q r n k) := fun b e _ hb => (if_neg (zne_new nq hb)).trans ((if_neg (fun z => by
  obtain ⟨i, hi, e⟩ := List.mem_map.mp z
  exact zne_new (nr i (List.mem_range.mp hi)) hb e.symm)).trans hb)
theorem CQ_X4_9 : Cond.classLink RX4 9 "[[J" ∈ zT := (zT_of 48 (by decide +kernel) (by decide +kernel))
theorem CQ_ovJ : Cond.arrayOver (.array .long) ∈ zT := (zT_of 49 (by decide +kernel) (by decide +kernel))
theorem CQ_arJ : Cond.arrayClass .long ∈ zT := (zT_of 76 (by decide +kernel) (by decide +kernel))
set_option maxHeartbeats 4000000 in
set_option maxRecDepth 100000 in
theorem c_X4_init (l : Launch) (hl : l.stackTraces = false) (G : zG) (x : Nat) (h : zH) (hx0 : h x = some (.inr (7, [.null, .null, .null, .null, .null]))) : zMet eV l yX4_init cX4_init 1 none 15 12 200 G [.ref x] h (fun _ h2 => ∃ g, XI G h2 g x z0 ∧ (∀ b, qR g b ≠ (0, 0) → b = x ∨ (h b = none ∧ ∃ e, h2 b = some e)) ∧ zKp (fun b => b = x) h h2) := by
  refine con_of hl RX4 rfl (by decide +kernel) [(0, .ref x)] rfl (Nat.le_of_ble_eq_true rfl) ?_
  intro zp ze zs zm zargs zbelow zmeth zc C hr hin Q hQ
  refine v_aload_n C 0 rfl dX4_init_0 rfl ?_
  refine v_objInit C O_X4_1 (Nat.le_of_ble_eq_true rfl) (Nat.le_of_ble_eq_true rfl) dX4_init_1 ?_
  refine v_aload_n C 0 rfl dX4_init_4 rfl ?_
  refine v_bipush (v := 6) C dX4_init_5 (by decide) ?_
  refine v_bipush (v := 20) C dX4_init_7 (by decide) ?_
  refine v_mna (N := 6) (K := 20) C CQ_X4_9 CQ_ovJ CQ_arJ (by decide) (by decide) (by decide) (by decide) (by decide) (by decide) (Nat.le_of_ble_eq_true rfl) (Nat.le_of_ble_eq_true rfl) dX4_init_9 (fun qo ro gqo nqo nro iro => v_nw (fun h1 eh1 => ?_))
  have kLL : zKp (fun _ => False) h h1 := by rw [eh1]; exact zLL_kp nqo (fun i hi => (nro i hi).2.1)
  have hqo : h1 qo = some (.inl (gc G 7, 6, .inr (.inr (.inr (.inr (fun i => if i < 6 then some (ro i) else none)))))) := by rw [eh1]; exact zLL_q
  have hro : ∀ i, i < 6 → h1 (ro i) = some (cL G (fun _ => 0)) := fun i hi => by rw [eh1]; exact zLL_r hi (nro i hi).2.2
  have hxL := kLL _ _ id hx0
  refine v_putF C [.ref qo, .null, .null, .null, .null] P_X4_11 hin hxL rfl rfl rfl (Nat.le_of_ble_eq_true rfl) dX4_init_13 (v_nw (fun h2 eh2 => ?_))
  have k3 : h2 qo = some (.inl (gc G 7, 6, .inr (.inr (.inr (.inr (fun i => if i < 6 then some (ro i) else none)))))) := by rw [eh2, zup_ne _ _ (zne_oq hxL hqo)]; exact hqo
  have k4 : h2 x = some (.inr (7, [.ref qo, .null, .null, .null, .null])) := by rw [eh2]; exact zup_self _ _ _
  refine v_aload_n C 0 rfl dX4_init_16 rfl ?_
  refine v_new C N_X4_14 (Nat.le_of_ble_eq_true rfl) (Nat.le_of_ble_eq_true rfl) dX4_init_17 (fun q5 gq5 nq5 => v_nw (fun h5 eh5 => ?_))
  have k6 : h5 qo = some (.inl (gc G 7, 6, .inr (.inr (.inr (.inr (fun i => if i < 6 then some (ro i) else none)))))) := by rw [eh5, zup_ne _ _ (zne_new nq5 k3)]; exact k3
  have k7 : h5 x = some (.inr (7, [.ref qo, .null, .null, .null, .null])) := by rw [eh5, zup_ne _ _ (zne_new nq5 k4)]; exact k4
  have k8 : h5 q5 = some (.inr (2, [.int 0, .null, .int 0])) := by rw [eh5]; exact zup_self _ _ _
  have nz_q5 : h1 q5 = none := knoneS (zk_put (zk_rf (fun b => b = x) h1) eh2 rfl) nq5 (by rw [k4]; exact fun z => by cases z)
  refine v_dup C dX4_init_20 rfl ?_
  refine v_callI (rest := [.ref q5, .ref x]) C (c_Jx4a65c_init_da8c8 l hl G q5 h5 k8) I_X4_16 rfl rfl (Nat.le_of_ble_eq_true rfl) ⟨Nat.le_of_ble_eq_true rfl, Nat.le_of_ble_eq_true rfl⟩ ⟨Nat.le_of_ble_eq_true rfl, Nat.le_of_ble_eq_true rfl⟩ dX4_init_21 (fun h9 w9 => ?_)
  obtain ⟨al9, kp9⟩ := w9
  obtain ⟨mo9, hm9⟩ := al9.2.1
  have k10 : h9 qo = some (.inl (gc G 7, 6, .inr (.inr (.inr (.inr (fun i => if i < 6 then some (ro i) else none)))))) := kp9 _ _ (fun z => (zne_new nq5 k3) z) k6
  have k11 : h9 x = some (.inr (7, [.ref qo, .null, .null, .null, .null])) := kp9 _ _ (fun z => (zne_new nq5 k4) z) k7
  refine v_putF C [.ref qo, .ref q5, .null, .null, .null] P_X4_17 hin k11 rfl rfl rfl (Nat.le_of_ble_eq_true rfl) dX4_init_24 (v_nw (fun h12 eh12 => ?_))
  have k13 : h12 qo = some (.inl (gc G 7, 6, .inr (.inr (.inr (.inr (fun i => if i < 6 then some (ro i) else none)))))) := by rw [eh12, zup_ne _ _ (zne_oq k11 k10)]; exact k10
  have k14 : h12 q5 = some (.inr (2, [.int mo9, .ref (gs G 0), .int (nI ([] : List Nat).length)])) := by rw [eh12, zup_ne _ _ (Ne.symm (zne_new nq5 k4))]; exact hm9
  have k15 : h12 x = some (.inr (7, [.ref qo, .ref q5, .null, .null, .null])) := by rw [eh12]; exact zup_self _ _ _
  refine v_aload_n C 0 rfl dX4_init_27 rfl ?_
  refine v_new C N_X4_14 (Nat.le_of_ble_eq_true rfl) (Nat.le_of_ble_eq_true rfl) dX4_init_28 (fun q16 gq16 nq16 => v_nw (fun h16 eh16 => ?_))
  have k17 : h16 qo = some (.inl (gc G 7, 6, .inr (.inr (.inr (.inr (fun i => if i < 6 then some (ro i) else none)))))) := by rw [eh16, zup_ne _ _ (zne_new nq16 k13)]; exact k13
  have k18 : h16 q5 = some (.inr (2, [.int mo9, .ref (gs G 0), .int (nI ([] : List Nat).length)])) := by rw [eh16, zup_ne _ _ (zne_new nq16 k14)]; exact k14
  have k19 : h16 x = some (.inr (7, [.ref qo, .ref q5, .null, .null, .null])) := by rw [eh16, zup_ne _ _ (zne_new nq16 k15)]; exact k15
  have k20 : h16 q16 = some (.inr (2, [.int 0, .null, .int 0])) := by rw [eh16]; exact zup_self _ _ _
  have nz_q16 : h1 q16 = none := knoneS (zk_put (zk_call (zk_new (zk_put (zk_rf (fun b => b = x) h1) eh2 rfl) eh5 nq5) kp9 (fun b e hb _ z => by rw [z, nz_q5] at hb; cases hb)) eh12 rfl) nq16 (by rw [k15]; exact fun z => by cases z)
  refine v_dup C dX4_init_31 rfl ?_
  refine v_callI (rest := [.ref q16, .ref x]) C (c_Jx4a65c_init_da8c8 l hl G q16 h16 k20) I_X4_16 rfl rfl (Nat.le_of_ble_eq_true rfl) ⟨Nat.le_of_ble_eq_true rfl, Nat.le_of_ble_eq_true rfl⟩ ⟨Nat.le_of_ble_eq_true rfl, Nat.le_of_ble_eq_true rfl⟩ dX4_init_32 (fun h21 w21 => ?_)
  obtain ⟨al21, kp21⟩ := w21
  obtain ⟨mo21, hm21⟩ := al21.2.1
  have k22 : h21 qo = some (.inl (gc G 7, 6, .inr (.inr (.inr (.inr (fun i => if i < 6 then some (ro i) else none)))))) := kp21 _ _ (fun z => (zne_new nq16 k13) z) k17
  have k23 : h21 q5 = some (.inr (2, [.int mo9, .ref (gs G 0), .int (nI ([] : List Nat).length)])) := kp21 _ _ (fun z => (zne_new nq16 k14) z) k18
  have k24 : h21 x = some (.inr (7, [.ref qo, .ref q5, .null, .null, .null])) := kp21 _ _ (fun z => (zne_new nq16 k15) z) k19
  refine v_putF C [.ref qo, .ref q5, .ref q16, .null, .null] P_X4_21 hin k24 rfl rfl rfl (Nat.le_of_ble_eq_true rfl) dX4_init_35 (v_nw (fun h25 eh25 => ?_))
  have k26 : h25 qo = some (.inl (gc G 7, 6, .inr (.inr (.inr (.inr (fun i => if i < 6 then some (ro i) else none)))))) := by rw [eh25, zup_ne _ _ (zne_oq k24 k22)]; exact k22
  have k27 : h25 q5 = some (.inr (2, [.int mo9, .ref (gs G 0), .int (nI ([] : List Nat).length)])) := by rw [eh25, zup_ne _ _ (Ne.symm (zne_new nq5 k4))]; exact k23
  have k28 : h25 q16 = some (.inr (2, [.int mo21, .ref (gs G 0), .int (nI ([] : List Nat).length)])) := by rw [eh25, zup_ne _ _ (Ne.symm (zne_new nq16 k15))]; exact hm21
  have k29 : h25 x = some (.inr (7, [.ref qo, .ref q5, .ref q16, .null, .null])) := by rw [eh25]; exact zup_self _ _ _
  refine v_aload_n C 0 rfl dX4_init_38 rfl ?_
  refine v_new C N_X4_14 (Nat.le_of_ble_eq_true rfl) (Nat.le_of_ble_eq_true rfl) dX4_init_39 (fun q30 gq30 nq30 => v_nw (fun h30 eh30 => ?_))
  have k31 : h30 qo = some (.inl (gc G 7, 6, .inr (.inr (.inr (.inr (fun i => if i < 6 then some (ro i) else none)))))) := by rw [eh30, zup_ne _ _ (zne_new nq30 k26)]; exact k26
  have k32 : h30 q5 = some (.inr (2, [.int mo9, .ref (gs G 0), .int (nI ([] : List Nat).length)])) := by rw [eh30, zup_ne _ _ (zne_new nq30 k27)]; exact k27
  have k33 : h30 q16 = some (.inr (2, [.int mo21, .ref (gs G 0), .int (nI ([] : List Nat).length)])) := by rw [eh30, zup_ne _ _ (zne_new nq30 k28)]; exact k28
  have k34 : h30 x = some (.inr (7, [.ref qo, .ref q5, .ref q16, .null, .null])) := by rw [eh30, zup_ne _ _ (zne_new nq30 k29)]; exact k29
  have k35 : h30 q30 = some (.inr (2, [.int 0, .null, .int 0])) := by rw [eh30]; exact zup_self _ _ _
  have nz_q30 : h1 q30 = none := knoneS (zk_put (zk_call (zk_new (zk_put (zk_call (zk_new (zk_put (zk_rf (fun b => b = x) h1) eh2 rfl) eh5 nq5) kp9 (fun b e hb _ z => by rw [z, nz_q5] at hb; cases hb)) eh12 rfl) eh16 nq16) kp21 (fun b e hb _ z => by rw [z, nz_q16] at hb; cases hb)) eh25 rfl) nq30 (by rw [k29]; exact fun z => by cases z)
  refine v_dup C dX4_init_42 rfl ?_
  refine v_callI (rest := [.ref q30, .ref x]) C (c_Jx4a65c_init_da8c8 l hl G q30 h30 k35) I_X4_16 rfl rfl (Nat.le_of_ble_eq_true rfl) ⟨Nat.le_of_ble_eq_true rfl, Nat.le_of_ble_eq_true rfl⟩ ⟨Nat.le_of_ble_eq_true rfl, Nat.le_of_ble_eq_true rfl⟩ dX4_init_43 (fun h36 w36 => ?_)
  obtain ⟨al36, kp36⟩ := w36
  obtain ⟨mo36, hm36⟩ := al36.2.1
  have k37 : h36 qo = some (.inl (gc G 7, 6, .inr (.inr (.inr (.inr (fun i => if i < 6 then some (ro i) else none)))))) := kp36 _ _ (fun z => (zne_new nq30 k26) z) k31
  have k38 : h36 q5 = some (.inr (2, [.int mo9, .ref (gs G 0), .int (nI ([] : List Nat).length)])) := kp36 _ _ (fun z => (zne_new nq30 k27) z) k32
  have k39 : h36 q16 = some (.inr (2, [.int mo21, .ref (gs G 0), .int (nI ([] : List Nat).length)])) := kp36 _ _ (fun z => (zne_new nq30 k28) z) k33
  have k40 : h36 x = some (.inr (7, [.ref qo, .ref q5, .ref q16, .null, .null])) := kp36 _ _ (fun z => (zne_new nq30 k29) z) k34
  refine v_putF C [.ref qo, .ref q5, .ref q16, .ref q30, .null] P_X4_24 hin k40 rfl rfl rfl (Nat.le_of_ble_eq_true rfl) dX4_init_46 (v_nw (fun h41 eh41 => ?_))
  have k42 : h41 qo = some (.inl (gc G 7, 6, .inr (.inr (.inr (.inr (fun i => if i < 6 then some (ro i) else none)))))) := by rw [eh41, zup_ne _ _ (zne_oq k40 k37)]; exact k37
  have k43 : h41 q5 = some (.inr (2, [.int mo9, .ref (gs G 0), .int (nI ([] : List Nat).length)])) := by rw [eh41, zup_ne _ _ (Ne.symm (zne_new nq5 k4))]; exact k38
  have k44 : h41 q16 = some (.inr (2, [.int mo21, .ref (gs G 0), .int (nI ([] : List Nat).length)])) := by rw [eh41, zup_ne _ _ (Ne.symm (zne_new nq16 k15))]; exact k39
  have k45 : h41 q30 = some (.inr (2, [.int mo36, .ref (gs G 0), .int (nI ([] : List Nat).length)])) := by rw [eh41, zup_ne _ _ (Ne.symm (zne_new nq30 k29))]; exact hm36
  have k46 : h41 x = some (.inr (7, [.ref qo, .ref q5, .ref q16, .ref q30, .null])) := by rw [eh41]; exact zup_self _ _ _
  refine v_aload_n C 0 rfl dX4_init_49 rfl ?_
  refine v_new C N_X4_14 (Nat.le_of_ble_eq_true rfl) (Nat.le_of_ble_eq_true rfl) dX4_init_50 (fun q47 gq47 nq47 => v_nw (fun h47 eh47 => ?_))
  have k48 : h47 qo = some (.inl (gc G 7, 6, .inr (.inr (.inr (.inr (fun i => if i < 6 then some (ro i) else none)))))) := by rw [eh47, zup_ne _ _ (zne_new nq47 k42)]; exact k42
  have k49 : h47 q5 = some (.inr (2, [.int mo9, .ref (gs G 0), .int (nI ([] : List Nat).length)])) := by rw [eh47, zup_ne _ _ (zne_new nq47 k43)]; exact k43
  have k50 : h47 q16 = some (.inr (2, [.int mo21, .ref (gs G 0), .int (nI ([] : List Nat).length)])) := by rw [eh47, zup_ne _ _ (zne_new nq47 k44)]; exact k44
  have k51 : h47 q30 = some (.inr (2, [.int mo36, .ref (gs G 0), .int (nI ([] : List Nat).length)])) := by rw [eh47, zup_ne _ _ (zne_new nq47 k45)]; exact k45
  have k52 : h47 x = some (.inr (7, [.ref qo, .ref q5, .ref q16, .ref q30, .null])) := by rw [eh47, zup_ne _ _ (zne_new nq47 k46)]; exact k46
  have k53 : h47 q47 = some (.inr (2, [.int 0, .null, .int 0])) := by rw [eh47]; exact zup_self _ _ _
  have nz_q47 : h1 q47 = none := knoneS (zk_put (zk_call (zk_new (zk_put (zk_call (zk_new (zk_put (zk_call (zk_new (zk_put (zk_rf (fun b => b = x) h1) eh2 rfl) eh5 nq5) kp9 (fun b e hb _ z => by rw [z, nz_q5] at hb; cases hb)) eh12 rfl) eh16 nq16) kp21 (fun b e hb _ z => by rw [z, nz_q16] at hb; cases hb)) eh25 rfl) eh30 nq30) kp36 (fun b e hb _ z => by rw [z, nz_q30] at hb; cases hb)) eh41 rfl) nq47 (by rw [k46]; exact fun z => by cases z)
  refine v_dup C dX4_init_53 rfl ?_
  refine v_callI (rest := [.ref q47, .ref x]) C (c_Jx4a65c_init_da8c8 l hl G q47 h47 k53) I_X4_16 rfl rfl (Nat.le_of_ble_eq_true rfl) ⟨Nat.le_of_ble_eq_true rfl, Nat.le_of_ble_eq_true rfl⟩ ⟨Nat.le_of_ble_eq_true rfl, Nat.le_of_ble_eq_true rfl⟩ dX4_init_54 (fun h54 w54 => ?_)
  obtain ⟨al54, kp54⟩ := w54
  obtain ⟨mo54, hm54⟩ := al54.2.1
  have k55 : h54 qo = some (.inl (gc G 7, 6, .inr (.inr (.inr (.inr (fun i => if i < 6 then some (ro i) else none)))))) := kp54 _ _ (fun z => (zne_new nq47 k42) z) k48
  have k56 : h54 q5 = some (.inr (2, [.int mo9, .ref (gs G 0), .int (nI ([] : List Nat).length)])) := kp54 _ _ (fun z => (zne_new nq47 k43) z) k49
  have k57 : h54 q16 = some (.inr (2, [.int mo21, .ref (gs G 0), .int (nI ([] : List Nat).length)])) := kp54 _ _ (fun z => (zne_new nq47 k44) z) k50
  have k58 : h54 q30 = some (.inr (2, [.int mo36, .ref (gs G 0), .int (nI ([] : List Nat).length)])) := kp54 _ _ (fun z => (zne_new nq47 k45) z) k51
  have k59 : h54 x = some (.inr (7, [.ref qo, .ref q5, .ref q16, .ref q30, .null])) := kp54 _ _ (fun z => (zne_new nq47 k46) z) k52
  refine v_putF C [.ref qo, .ref q5, .ref q16, .ref q30, .ref q47] P_X4_27 hin k59 rfl rfl rfl (Nat.le_of_ble_eq_true rfl) dX4_init_57 (v_nw (fun h60 eh60 => ?_))
  have k61 : h60 qo = some (.inl (gc G 7, 6, .inr (.inr (.inr (.inr (fun i => if i < 6 then some (ro i) else none)))))) := by rw [eh60, zup_ne _ _ (zne_oq k59 k55)]; exact k55
  have k62 : h60 q5 = some (.inr (2, [.int mo9, .ref (gs G 0), .int (nI ([] : List Nat).length)])) := by rw [eh60, zup_ne _ _ (Ne.symm (zne_new nq5 k4))]; exact k56
  have k63 : h60 q16 = some (.inr (2, [.int mo21, .ref (gs G 0), .int (nI ([] : List Nat).length)])) := by rw [eh60, zup_ne _ _ (Ne.symm (zne_new nq16 k15))]; exact k57
  have k64 : h60 q30 = some (.inr (2, [.int mo36, .ref (gs G 0), .int (nI ([] : List Nat).length)])) := by rw [eh60, zup_ne _ _ (Ne.symm (zne_new nq30 k29))]; exact k58
  have k65 : h60 q47 = some (.inr (2, [.int mo54, .ref (gs G 0), .int (nI ([] : List Nat).length)])) := by rw [eh60, zup_ne _ _ (Ne.symm (zne_new nq47 k46))]; exact hm54
  have k66 : h60 x = some (.inr (7, [.ref qo, .ref q5, .ref q16, .ref q30, .ref q47])) := by rw [eh60]; exact zup_self _ _ _
  have kxx := (zk_put (zk_call (zk_new (zk_put (zk_call (zk_new (zk_put (zk_call (zk_new (zk_put (zk_call (zk_new (zk_put (zk_rf (fun b => b = x) h1) eh2 rfl) eh5 nq5) kp9 (fun b e hb _ z => by rw [z, nz_q5] at hb; cases hb)) eh12 rfl) eh16 nq16) kp21 (fun b e hb _ z => by rw [z, nz_q16] at hb; cases hb)) eh25 rfl) eh30 nq30) kp36 (fun b e hb _ z => by rw [z, nz_q30] at hb; cases hb)) eh41 rfl) eh47 nq47) kp54 (fun b e hb _ z => by rw [z, nz_q47] at hb; cases hb)) eh60 rfl)
  obtain ⟨gz, xiz, roz⟩ := XI.init (h := h) nqo (fun i hi => (nro i hi).2.1) iro (knone kLL nz_q5) (knone kLL nz_q16) (knone kLL nz_q30) (knone kLL nz_q47) (Ne.symm (zne_new nq16 k14)) (Ne.symm (zne_new nq30 k27)) (Ne.symm (zne_new nq30 k28)) (Ne.symm (zne_new nq47 k43)) (Ne.symm (zne_new nq47 k44)) (Ne.symm (zne_new nq47 k45)) k66 ⟨_, k61, fun i hi => if_pos hi⟩ (fun i hi => kxx _ _ (zne_ol hxL (hro i hi)) (hro i hi)) ⟨Nat.zero_le _, ⟨_, k62⟩, Or.inl ⟨rfl, rfl⟩⟩ ⟨Nat.zero_le _, ⟨_, k63⟩, Or.inl ⟨rfl, rfl⟩⟩ ⟨Nat.zero_le _, ⟨_, k64⟩, Or.inl ⟨rfl, rfl⟩⟩ ⟨Nat.zero_le _, ⟨_, k65⟩, Or.inl ⟨rfl, rfl⟩⟩
  exact v_vret C hQ hr (Nat.le_of_ble_eq_true rfl) (Nat.le_of_ble_eq_true rfl) dX4_init_60 ⟨gz, xiz, roz, fun b e hb he => kxx b e hb (kLL b e id he)⟩

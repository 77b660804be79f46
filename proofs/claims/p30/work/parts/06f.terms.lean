theorem xl_sf {G : zG} {g : XGh} {A V : Nat → Nat → Int64} {h h2 : zH} {k : Nat} {L : List Nat} (x : XL G h g k L) (s : SF G g A V E55 h h2) : XL G h2 g k L := x.fr s.kp ⟨(show ¬ (14 : Nat) = 12 by decide), (show ¬ (14 : Nat) = 5 by decide)⟩ ⟨(show ¬ (15 : Nat) = 12 by decide), (show ¬ (15 : Nat) = 5 by decide)⟩ trivial trivial
theorem e55_c {G : zG} {g : XGh} {A V : Nat → Nat → Int64} {h h2 : zH} (s : SF G g A V E55 h h2) {b : Nat} {e : va_E} {r : Nat × Nat} (hb : h b = some e) (hr : qR g b = r) (h12 : r.1 ≠ 12) (h5 : r.1 ≠ 5) : h2 b = some e := s.cell hb hr h12 h5
set_option maxHeartbeats 4000000 in
set_option maxRecDepth 100000 in
theorem c_X4_settleTerms (l : Launch) (hl : l.stackTraces = false) (G : zG) (x : Nat) (g : XGh) (s : ZS) (h : zH) (hi : XW G h g x s) (hw : WFs s) : zMet eV l yX4_settleTerms cX4_settleTerms 2 none 30 0 0 G [.ref x] h (fun _ h2 => SF G g (oAL s) (oV s) E55 h h2 ∧ XV G h2 g s) := by
  refine con_of hl RX4 rfl (by decide +kernel) [(0, .ref x)] rfl (Nat.le_of_ble_eq_true rfl) ?_
  intro zp ze zs zm zargs zbelow zmeth zc C hr hin Q hQ
  obtain ⟨hO, hA, ⟨hL0, hL1, hL2, hL3⟩, hS, hN, hT, hR, hB⟩ := id hi
  have hw7 : oN s ≤ 10 := hw.2.2.1.1
  refine v_iconst (v := 0) C dX4_settleTerms_0 (by decide) ?_
  refine v_istore_n C [(1, .int 0), (0, .ref x)] rfl (by decide) dX4_settleTerms_1 rfl ?_
  have L1 : ∀ (d : Nat) (n : Nat) (h2 : zH), (n ≤ oN s) → (h2 x = some (.inr (7, [.ref (qA g 1 0), .ref (qA g 14 0), .ref (qA g 14 1), .ref (qA g 14 2), .ref (qA g 14 3)]))) → (SF G g (oAL s) (oV s) E55 h h2) → (∀ j, j < n → ∃ f, h2 (qA g 5 j) = some (cL G f) ∧ ∀ q, q < 20 → f q = oV s j q) → (∀ j, j < oN s → ∃ f, h2 (qA g 5 j) = some (cL G f)) → (oN s + 1 ≤ n + d) → V zp l ze (rmm 30 0 0) zs zm zargs zbelow zmeth zc G 2 Q h2 (0) (0) 2 [(1, .int (nI n)), (0, .ref x)] [] := by
    intro d
    induction d with
    | zero =>
      intro n h2 hn kx sf2 kv k5 hd
      exact absurd hd (by omega)
    | succ d ih1 =>
      intro n h2 hn kx sf2 kv k5 hd
      refine v_iload_n C 0 rfl dX4_settleTerms_2 rfl ?_
      have hLw := (xl_sf hL1 sf2).1
      obtain ⟨mo1, hmo1⟩ := hLw.2.1
      refine v_aload_n C 1 rfl dX4_settleTerms_3 rfl ?_
      refine v_get (v := .ref (qA g 14 1)) C F_X4_21 kx rfl dX4_settleTerms_4 ?_
      refine v_callV (rest := [.int (nI n)]) C (c_Jx4a65c_size_8abf5 l hl G (qA g 14 1) (qA g 15 1) ((List.range (oN s)).map (qA g 3)) h2 hLw) K_X4_60 hmo1 rfl rfl (Nat.le_of_ble_eq_true rfl) ⟨Nat.le_of_ble_eq_true rfl, Nat.le_of_ble_eq_true rfl⟩ ⟨Nat.le_of_ble_eq_true rfl, Nat.le_of_ble_eq_true rfl⟩ dX4_settleTerms_7 (fun i2 h2 q2 => ?_)
      obtain ⟨e2, rfl⟩ := q2; subst e2
      refine v_eqi (congrArg nI mr_len) ?_
      refine v_icmp_ge (tgt := 33) C dX4_settleTerms_10 (by decide) (fun c3 => ?_) (fun c3 => ?_)
      · have c3 := (nn_ge (a := n) (b := (oN s)) (by omega) (by omega)).mp c3
        exact v_vret C hQ hr (Nat.le_of_ble_eq_true rfl) (Nat.le_of_ble_eq_true rfl) dX4_settleTerms_33 ⟨sf2, fun j hj => kv j (by omega)⟩
      · have c3 := (nn_ge_f (a := n) (b := (oN s)) (by omega) (by omega)).mp c3
        have hnn : n < oN s := by omega
        obtain ⟨r3, r4, r5, t3, ⟨fd, t4, hdf⟩, -⟩ := hT n hnn
        obtain ⟨f5, t5⟩ := k5 n hnn
        have t3b := e55_c sf2 t3 r3 (by simp) (by simp)
        have t4b := e55_c sf2 t4 r4 (by simp) (by simp)
        refine v_aload_n C 1 rfl dX4_settleTerms_13 rfl ?_
        refine v_get (v := .ref (qA g 14 1)) C F_X4_21 kx rfl dX4_settleTerms_14 ?_
        refine v_iload_n C 0 rfl dX4_settleTerms_17 rfl ?_
        refine v_callV (rest := []) C (c_Jx4a65c_get_915e3 l hl G (qA g 14 1) (qA g 15 1) ((List.range (oN s)).map (qA g 3)) n h2 hLw (by rw [mr_len]; omega)) K_X4_99 hmo1 rfl rfl (Nat.le_of_ble_eq_true rfl) ⟨Nat.le_of_ble_eq_true rfl, Nat.le_of_ble_eq_true rfl⟩ ⟨Nat.le_of_ble_eq_true rfl, Nat.le_of_ble_eq_true rfl⟩ dX4_settleTerms_18 (fun i4 h4 q4 => ?_)
        obtain ⟨e4, rfl⟩ := q4; rw [mr_get (show n < (oN s) by omega)] at e4; subst e4
        refine v_chk C CA_X4_103 t3b dX4_settleTerms_21 ?_
        have scn : SC G h2 g (oN s) (oL s) (oAL s) (oV s) n := ⟨sf2.xa hA (fun _ => (show ¬ (2 : Nat) = 5 by decide)), fun j hj => ⟨(hT j (by omega)).2.2.1, kv j hj⟩, sf2.xn hN (show ¬ (11 : Nat) = 5 by decide) (show ¬ (13 : Nat) = 5 by decide)⟩
        obtain ⟨-, -, hD0, hDg⟩ := hw.2.2.1.2.1 n hnn
        refine v_callS (rest := []) C (c_X4_settleTerm l hl G n (oN s) (oL s) g (oAL s) (oV s) (oD s n) fd f5 _ _ h2 scn r3 r4 r5 t3b t4b t5 hdf hD0 (fun q t z => (hDg q t z).2)) S_X4_228 rfl rfl (Nat.le_of_ble_eq_true rfl) ⟨Nat.le_of_ble_eq_true rfl, Nat.le_of_ble_eq_true rfl⟩ ⟨Nat.le_of_ble_eq_true rfl, Nat.le_of_ble_eq_true rfl⟩ dX4_settleTerms_24 (fun _ h5 w5 => ?_)
        obtain ⟨sf5, f2n, hf2n, hq2n⟩ := w5
        have kx5 := sf5.cell kx hO.2.1 (by simp) (fun z => by cases z)
        have sfn := sf2.trans (sf5.weak (fun r z => by rw [z]; exact rfl))
        have kvn : ∀ j, j < n + 1 → ∃ f, h5 (qA g 5 j) = some (cL G f) ∧ ∀ q, q < 20 → f q = oV s j q := fun j hj => by
            by_cases y : j = n
            · subst y; exact ⟨f2n, hf2n, fun q hq => (hq2n q hq).trans (oV_eq hw hnn q)⟩
            · obtain ⟨f, hf, hq⟩ := kv j (by omega)
              exact ⟨f, sf5.cell hf (hT j (by omega)).2.2.1 (by simp) (fun z => by cases z; exact y rfl), hq⟩
        have k5n : ∀ j, j < oN s → ∃ f, h5 (qA g 5 j) = some (cL G f) := fun j hj => by
            by_cases y : j = n
            · subst y; exact ⟨f2n, hf2n⟩
            · obtain ⟨f, hf⟩ := k5 j hj
              exact ⟨f, sf5.cell hf (hT j (by omega)).2.2.1 (by simp) (fun z => by cases z; exact y rfl)⟩
        refine v_iinc C 0 [(1, .int (nI (n + 1))), (0, .ref x)] rfl (nI_inc n 1 (by decide)) rfl (by decide) dX4_settleTerms_27 ?_
        refine v_goto (tgt := 2) C dX4_settleTerms_30 (by decide) ?_
        refine v_lvp [0, 1] rfl ?_
        exact ih1 (n + 1) h5 (by omega) kx5 sfn kvn k5n (by omega)
  refine v_lvp [0, 1] rfl ?_
  exact L1 (oN s + 1) 0 h (Nat.zero_le _) hO.1 SF.rf (fun j hj => absurd hj (by omega)) (fun j hj => (hT j hj).2.2.2.2.2) (by omega)

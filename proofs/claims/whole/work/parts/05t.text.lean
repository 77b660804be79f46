set_option maxHeartbeats 4000000 in
set_option maxRecDepth 100000 in
theorem c_X5_inserts (l : Launch) (hl : l.stackTraces = false) (G : zG) (m : Nat) (ad : Nat → Nat) (ns : Nat → Nat) (na : Nat → Nat → Nat) (ia : Nat → Nat → Int32) (la : Nat → Nat → Int64) (h0 : zH) (p c : Nat) (T : List Nat) (h : zH) (hm : MR G h0 h m ad ns na ia la) (hT : txA (na 14) T) (hlen : ns 15 = T.length) (hp : p ≤ T.length) (hlt : T.length < 1000) (ha : asc T) (hc : c < 128) : zMet eV l yX5_inserts cX5_inserts 4 none 12 0 0 G [.ref m, .int (nI p), .int (nI c)] h (fun _ h2 => ∃ f, MR G h0 h2 m ad (upN ns 15 (ns 15 + 1)) (up2 na 14 f) ia la ∧ txA f (insL T p c)) := by
  refine con_of hl RX5 rfl (by decide +kernel) [(0, .ref m), (1, .int (nI p)), (2, .int (nI c))] rfl (Nat.le_of_ble_eq_true rfl) ?_
  intro zp ze zs zm zargs zbelow zmeth zc C hr hin Q hQ
  refine v_aload_n C 0 rfl dX5_inserts_0 rfl ?_
  refine v_get (v := .int (nI (ns 15))) C F_X5_154 hm.1 rfl dX5_inserts_1 ?_
  refine v_istore_n C [(3, .int (nI (ns 15))), (0, .ref m), (1, .int (nI p)), (2, .int (nI c))] rfl (by decide) dX5_inserts_4 rfl ?_
  have L1 : ∀ (d : Nat) (k : Nat) (f : Nat → Nat) (h2 : zH), (p ≤ k) → (k ≤ T.length) → (MR G h0 h2 m ad ns (up2 na 14 f) ia la) → (∀ j, j ≤ k → j < T.length → f j = T.getD j 0) → (∀ j, k < j → j ≤ T.length → f j = T.getD (j - 1) 0) → (k + 1 ≤ d) → V zp l ze (rmm 12 0 0) zs zm zargs zbelow zmeth zc G 4 Q h2 (0) (0) 5 [(3, .int (nI k)), (2, .int (nI c)), (1, .int (nI p)), (0, .ref m)] [] := by
    intro d
    induction d with
    | zero =>
      intro k f h2 hk1 hk2 hm2 hlo hhi hd
      exact absurd hd (by omega)
    | succ d ih1 =>
      intro k f h2 hk1 hk2 hm2 hlo hhi hd
      refine v_iload_n C 0 rfl dX5_inserts_5 rfl ?_
      refine v_iload_n C 2 rfl dX5_inserts_6 rfl ?_
      refine v_icmp_le (tgt := 30) C dX5_inserts_7 (by decide) (fun c2 => ?_) (fun c2 => ?_)
      · have c2 := (nn_le (a := k) (b := p) (by omega) (by omega)).mp c2
        refine v_aload_n C 3 rfl dX5_inserts_30 rfl ?_
        refine v_get (v := .ref (ad 14)) C F_X5_44 hm2.1 rfl dX5_inserts_31 ?_
        refine v_iload_n C 2 rfl dX5_inserts_34 rfl ?_
        refine v_iload_n C 1 rfl dX5_inserts_35 rfl ?_
        refine v_cast C (hm2.2.1 14 rfl) (vpin (show p < 1000 by omega) (by decide)) dX5_inserts_36 (v_nw (fun h3 eh3 => ?_))
        rw [nar_chr (show c < 128 by omega)] at eh3
        have hm3 := hm2.putN (k := 14) rfl (g := f) (i := p) (v := c) (by omega) eh3
        refine v_aload_n C 3 rfl dX5_inserts_37 rfl ?_
        refine v_dup C dX5_inserts_38 rfl ?_
        refine v_get (v := .int (nI (ns 15))) C F_X5_154 hm3.1 rfl dX5_inserts_39 ?_
        refine v_iconst (v := 1) C dX5_inserts_42 (by decide) ?_
        refine v_iadd C dX5_inserts_43 (v_eqi (nI_adk (ns 15) 1 (by decide)) ?_)
        refine v_put C (mC ad (upN ns 15 ((ns 15) + 1))) P_X5_154 hm3.1 rfl rfl rfl (Nat.le_of_ble_eq_true rfl) dX5_inserts_44 (v_nw (fun h5 eh5 => ?_))
        have hm5 := hm3.putS 15 ((ns 15) + 1) rfl eh5
        have hmz := hm5; rw [up2_up2] at hmz
        have hkp : k = p := by omega
        rw [hkp] at hlo hhi
        exact v_vret C hQ hr (Nat.le_of_ble_eq_true rfl) (Nat.le_of_ble_eq_true rfl) dX5_inserts_47 ⟨_, hmz, txA_ins hp hlo hhi⟩
      · have c2 := (nn_le_f (a := k) (b := p) (by omega) (by omega)).mp c2
        refine v_aload_n C 3 rfl dX5_inserts_10 rfl ?_
        refine v_get (v := .ref (ad 14)) C F_X5_44 hm2.1 rfl dX5_inserts_11 ?_
        refine v_iload_n C 0 rfl dX5_inserts_14 rfl ?_
        refine v_aload_n C 3 rfl dX5_inserts_15 rfl ?_
        refine v_get (v := .ref (ad 14)) C F_X5_44 hm2.1 rfl dX5_inserts_16 ?_
        refine v_iload_n C 0 rfl dX5_inserts_19 rfl ?_
        refine v_iconst (v := 1) C dX5_inserts_20 (by decide) ?_
        refine v_isub C dX5_inserts_21 (v_eqi (nI_sbk (a := k) 1 (by decide) (by omega)) ?_)
        refine v_cald C (hm2.2.1 14 rfl) (vpin (show (k - 1) < 1000 by omega) (by decide)) dX5_inserts_22 (v_eqi (y := nI (f (k - 1))) (congrArg (fun j => nI (f j)) (nI_clamp (show (k - 1) < 2 ^ 31 by omega))) ?_)
        have hch : f (k - 1) < 128 := by rw [hlo (k - 1) (by omega) (by omega)]; exact asc_get ha (by omega)
        refine v_cast C (hm2.2.1 14 rfl) (vpin (show k < 1000 by omega) (by decide)) dX5_inserts_23 (v_nw (fun h7 eh7 => ?_))
        rw [nar_chr (show (f (k - 1)) < 128 by omega)] at eh7
        have hm7 := hm2.putN (k := 14) rfl (g := f) (i := k) (v := (f (k - 1))) (by omega) eh7
        refine v_iinc C 0 [(3, .int (nI (k - 1))), (2, .int (nI c)), (1, .int (nI p)), (0, .ref m)] rfl (nI_dec (p := k) (by omega)) rfl (by decide) dX5_inserts_24 ?_
        refine v_goto (tgt := 5) C dX5_inserts_27 (by decide) ?_
        refine v_lvp [0, 1, 2, 3] rfl ?_
        have hmz := hm7; rw [up2_up2] at hmz
        exact ih1 (k - 1) _ h7 (by omega) (by omega) hmz (fun j h1 h2 => by rw [upN_n (by omega)]; exact hlo j (by omega) h2) (fun j h1 h2 => by
              by_cases y : j = k
              · subst y; rw [upN_s]; exact hlo _ (by omega) (by omega)
              · rw [upN_n y]; exact hhi j (by omega) h2) (by omega)
  refine v_lvp [0, 3, 2, 1] rfl ?_
  have hmz : MR G h0 h m ad ns (up2 na 14 (na 14)) ia la := by rw [up2_id]; exact hm
  rw [hlen]
  exact L1 (T.length + 1) T.length (na 14) h hp (Nat.le_refl _) hmz (fun j _ hj => hT j hj) (fun j h1 h2 => absurd h1 (by omega)) (by omega)

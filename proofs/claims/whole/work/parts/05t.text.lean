set_option maxHeartbeats 4000000 in
set_option maxRecDepth 100000 in
theorem c_X5_inserts (l : Launch) (hl : l.stackTraces = false) (G : zG) (m : Nat) (ad : Nat → Nat) (ns : Nat → Nat) (na : Nat → Nat → Nat) (ia : Nat → Nat → Int32) (la : Nat → Nat → Int64) (h0 : zH) (p c : Nat) (T : List Nat) (h : zH) (hm : MR G h0 h m ad ns na ia la) (hT : txA (na 14) T) (hlen : ns 15 = T.length) (hp : p ≤ T.length) (hlt : T.length < 1000) (ha : asc T) (hc : c < 128) : zMet eV l yX5_inserts cX5_inserts 4 none 12 0 0 G [.ref m, .int (nI p), .int (nI c)] h (fun _ h2 => ∃ f, MR G h0 h2 m ad (upN ns 15 (ns 15 + 1)) (up2 na 14 f) ia la ∧ txA f (insL T p c)) := by
  refine con_of hl RX5 rfl (by decide +kernel) [(0, .ref m), (1, .int (nI p)), (2, .int (nI c))] rfl (Nat.le_of_ble_eq_true rfl) ?_
  intro zp ze zs zm zargs zbelow zmeth zc C hr hin Q hQ
  refine v_aload_n C 0 rfl dX5_inserts_0 rfl ?_
  refine v_get (v := .int (nI (ns 15))) C F_X5_154 hm.1 rfl dX5_inserts_1 ?_
  refine v_istore_n C [(3, .int (nI (ns 15))), (0, .ref m), (1, .int (nI p)), (2, .int (nI c))] rfl (by decide) dX5_inserts_4 rfl ?_
  have L1 : ∀ (d : Nat) (k : Nat) (f : Nat → Nat) (h2 : zH), (p ≤ k) → (k ≤ T.length) → (MR G h0 h2 m ad ns (up2 na 14 f) ia la) → (∀ j, j ≤ k → j < T.length → f j = T.getD j 0) → (∀ j, k < j → j ≤ T.length → f j = T.getD (j - 1) 0) → (k + 1 ≤ d) → V zp l ze (rmm 12 0 0) zs zm zargs zbelow zmeth zc G 4 Q h2 (0) (0) 5 [(3, .int (nI k)), (2, .int (nI c)), (1, .int (nI p)), (0, .ref m)] [] := by
    intro d
    induction d with
    | zero =>
      intro k f h2 hk1 hk2 hm2 hlo hhi hd
      exact absurd hd (by omega)
    | succ d ih1 =>
      intro k f h2 hk1 hk2 hm2 hlo hhi hd
      refine v_iload_n C 0 rfl dX5_inserts_5 rfl ?_
      refine v_iload_n C 2 rfl dX5_inserts_6 rfl ?_
      refine v_icmp_le (tgt := 30) C dX5_inserts_7 (by decide) (fun c2 => ?_) (fun c2 => ?_)
      · have c2 := (nn_le (a := k) (b := p) (by omega) (by omega)).mp c2
        refine v_aload_n C 3 rfl dX5_inserts_30 rfl ?_
        refine v_get (v := .ref (ad 14)) C F_X5_44 hm2.1 rfl dX5_inserts_31 ?_
        refine v_iload_n C 2 rfl dX5_inserts_34 rfl ?_
        refine v_iload_n C 1 rfl dX5_inserts_35 rfl ?_
        refine v_cast C (hm2.2.1 14 rfl) (vpin (show p < 1000 by omega) (by decide)) dX5_inserts_36 (v_nw (fun h3 eh3 => ?_))
        rw [nar_chr (show c < 128 by omega)] at eh3
        have hm3 := hm2.putN (k := 14) rfl (g := f) (i := p) (v := c) (by omega) eh3
        refine v_aload_n C 3 rfl dX5_inserts_37 rfl ?_
        refine v_dup C dX5_inserts_38 rfl ?_
        refine v_get (v := .int (nI (ns 15))) C F_X5_154 hm3.1 rfl dX5_inserts_39 ?_
        refine v_iconst (v := 1) C dX5_inserts_42 (by decide) ?_
        refine v_iadd C dX5_inserts_43 (v_eqi (nI_adk (ns 15) 1 (by decide)) ?_)
        refine v_put C (mC ad (upN ns 15 ((ns 15) + 1))) P_X5_154 hm3.1 rfl rfl rfl (Nat.le_of_ble_eq_true rfl) dX5_inserts_44 (v_nw (fun h5 eh5 => ?_))
        have hm5 := hm3.putS 15 ((ns 15) + 1) rfl eh5
        have hmz := hm5; rw [up2_up2] at hmz
        have hkp : k = p := by omega
        rw [hkp] at hlo hhi
        exact v_vret C hQ hr (Nat.le_of_ble_eq_true rfl) (Nat.le_of_ble_eq_true rfl) dX5_inserts_47 ⟨_, hmz, txA_ins hp hlo hhi⟩
      · have c2 := (nn_le_f (a := k) (b := p) (by omega) (by omega)).mp c2
        refine v_aload_n C 3 rfl dX5_inserts_10 rfl ?_
        refine v_get (v := .ref (ad 14)) C F_X5_44 hm2.1 rfl dX5_inserts_11 ?_
        refine v_iload_n C 0 rfl dX5_inserts_14 rfl ?_
        refine v_aload_n C 3 rfl dX5_inserts_15 rfl ?_
        refine v_get (v := .ref (ad 14)) C F_X5_44 hm2.1 rfl dX5_inserts_16 ?_
        refine v_iload_n C 0 rfl dX5_inserts_19 rfl ?_
        refine v_iconst (v := 1) C dX5_inserts_20 (by decide) ?_
        refine v_isub C dX5_inserts_21 (v_eqi (nI_sbk (a := k) 1 (by decide) (by omega)) ?_)
        refine v_cald C (hm2.2.1 14 rfl) (vpin (show (k - 1) < 1000 by omega) (by decide)) dX5_inserts_22 (v_eqi (y := nI (f (k - 1))) (congrArg (fun j => nI (f j)) (nI_clamp (show (k - 1) < 2 ^ 31 by omega))) ?_)
        have hch : f (k - 1) < 128 := by rw [hlo (k - 1) (by omega) (by omega)]; exact asc_get ha (by omega)
        refine v_cast C (hm2.2.1 14 rfl) (vpin (show k < 1000 by omega) (by decide)) dX5_inserts_23 (v_nw (fun h7 eh7 => ?_))
        rw [nar_chr (show (f (k - 1)) < 128 by omega)] at eh7
        have hm7 := hm2.putN (k := 14) rfl (g := f) (i := k) (v := (f (k - 1))) (by omega) eh7
        refine v_iinc C 0 [(3, .int (nI (k - 1))), (2, .int (nI c)), (1, .int (nI p)), (0, .ref m)] rfl (nI_dec (p := k) (by omega)) rfl (by decide) dX5_inserts_24 ?_
        refine v_goto (tgt := 5) C dX5_inserts_27 (by decide) ?_
        refine v_lvp [0, 1, 2, 3] rfl ?_
        have hmz := hm7; rw [up2_up2] at hmz
        exact ih1 (k - 1) _ h7 (by omega) (by omega) hmz (fun j h1 h2 => by rw [upN_n (by omega)]; exact hlo j (by omega) h2) (fun j h1 h2 => by
              by_cases y : j = k
              · subst y; rw [upN_s]; exact hlo _ (by omega) (by omega)
              · rw [upN_n y]; exact hhi j (by omega) h2) (by omega)
  refine v_lvp [0, 3, 2, 1] rfl ?_
  have hmz : MR G h0 h m ad ns (up2 na 14 (na 14)) ia la := by rw [up2_id]; exact hm
  rw [hlen]
  exact L1 (T.length + 1) T.length (na 14) h hp (Nat.le_refl _) hmz (fun j _ hj => hT j hj) (fun j h1 h2 => absurd h1 (by omega)) (by omega)
set_option maxHeartbeats 4000000 in
set_option maxRecDepth 100000 in
theorem c_X5_insertsWord (l : Launch) (hl : l.stackTraces = false) (G : zG) (m : Nat) (ad : Nat → Nat) (ns : Nat → Nat) (na : Nat → Nat → Nat) (ia : Nat → Nat → Int32) (la : Nat → Nat → Int64) (h0 : zH) (p a b c e f : Nat) (T : List Nat) (h : zH) (hm : MR G h0 h m ad ns na ia la) (hT : txA (na 14) T) (hlen : ns 15 = T.length) (hp : p ≤ T.length) (hlt : T.length < 990) (ha : asc T) (hw : ∀ z ∈ [a, b, c, e, f], z < 128) : zMet eI l yX5_insertsWord cX5_insertsWord 8 (some .int) 13 0 0 G [.ref m, .int (nI p), .int (nI a), .int (nI b), .int (nI c), .int (nI e), .int (nI f)] h (fun r h2 => r = nI (p + 5) ∧ ∃ f2, MR G h0 h2 m ad (upN ns 15 (ns 15 + 5)) (up2 na 14 f2) ia la ∧ txA f2 (insS T p [a, b, c, e, f])) := by
  refine con_of hl RX5 rfl (by decide +kernel) [(0, .ref m), (1, .int (nI p)), (2, .int (nI a)), (3, .int (nI b)), (4, .int (nI c)), (5, .int (nI e)), (6, .int (nI f))] rfl (Nat.le_of_ble_eq_true rfl) ?_
  intro zp ze zs zm zargs zbelow zmeth zc C hr hin Q hQ
  have hwa := hw a (by simp)
  have hwb := hw b (by simp)
  have hwc := hw c (by simp)
  have hwe := hw e (by simp)
  have hwf := hw f (by simp)
  refine v_iload_n C 1 rfl dX5_insertsWord_0 rfl ?_
  refine v_istore C [(7, .int (nI p)), (0, .ref m), (1, .int (nI p)), (2, .int (nI a)), (3, .int (nI b)), (4, .int (nI c)), (5, .int (nI e)), (6, .int (nI f))] rfl (by decide) dX5_insertsWord_1 ?_
  refine v_aload_n C 1 rfl dX5_insertsWord_3 rfl ?_
  refine v_iload C 0 rfl dX5_insertsWord_4 ?_
  refine v_iload_n C 3 rfl dX5_insertsWord_6 rfl ?_
  refine v_callV (rest := []) C (c_X5_inserts l hl G m ad ns na ia la h0 p a T h hm hT hlen (by omega) (by omega) ha (by omega)) K_X5_157 hm.1 rfl rfl (Nat.le_of_ble_eq_true rfl) ⟨Nat.le_of_ble_eq_true rfl, Nat.le_of_ble_eq_true rfl⟩ ⟨Nat.le_of_ble_eq_true rfl, Nat.le_of_ble_eq_true rfl⟩ dX5_insertsWord_7 (fun _ h1 q1 => ?_)
  obtain ⟨f1, hm1, hT1⟩ := q1
  rw [show insL T p a = (insS T p [a]) from rfl] at hT1
  have hl1 : ns 15 + 1 = (insS T p [a]).length := by rw [insS_len hp]; simp only [List.length_cons, List.length_nil, List.length_append]; omega
  have ha1 : asc (insS T p [a]) := insS_asc ha (fun z hz => hw z (by simp only [List.mem_cons, List.not_mem_nil, or_false] at hz ⊢; omega))
  refine v_iinc C 0 [(7, .int (nI (p + 1))), (0, .ref m), (1, .int (nI p)), (2, .int (nI a)), (3, .int (nI b)), (4, .int (nI c)), (5, .int (nI e)), (6, .int (nI f))] rfl (nI_inc p 1 (by decide)) rfl (by decide) dX5_insertsWord_10 ?_
  refine v_aload_n C 1 rfl dX5_insertsWord_13 rfl ?_
  refine v_iload C 0 rfl dX5_insertsWord_14 ?_
  refine v_iload_n C 4 rfl dX5_insertsWord_16 rfl ?_
  refine v_callV (rest := []) C (c_X5_inserts l hl G m ad (upN ns 15 (ns 15 + 1)) (up2 na 14 f1) ia la h0 (p + 1) b (insS T p [a]) h1 hm1 hT1 hl1 (by omega) (by omega) ha1 (by omega)) K_X5_157 hm1.1 rfl rfl (Nat.le_of_ble_eq_true rfl) ⟨Nat.le_of_ble_eq_true rfl, Nat.le_of_ble_eq_true rfl⟩ ⟨Nat.le_of_ble_eq_true rfl, Nat.le_of_ble_eq_true rfl⟩ dX5_insertsWord_17 (fun _ h3 q3 => ?_)
  obtain ⟨f3, hm3, hT3⟩ := q3
  rw [show insL (insS T p [a]) (p + 1) b = (insS T p [a, b]) from (insS_end (w := [a]) hp)] at hT3
  have hm3 : MR G h0 h3 m ad (upN ns 15 (ns 15 + 2)) (up2 na 14 f3) ia la := by rw [upN_upN, up2_up2] at hm3; exact hm3
  have hl3 : ns 15 + 2 = (insS T p [a, b]).length := by rw [insS_len hp]; simp only [List.length_cons, List.length_nil, List.length_append]; omega
  have ha3 : asc (insS T p [a, b]) := insS_asc ha (fun z hz => hw z (by simp only [List.mem_cons, List.not_mem_nil, or_false] at hz ⊢; omega))
  refine v_iinc C 0 [(7, .int (nI ((p + 1) + 1))), (0, .ref m), (1, .int (nI p)), (2, .int (nI a)), (3, .int (nI b)), (4, .int (nI c)), (5, .int (nI e)), (6, .int (nI f))] rfl (nI_inc (p + 1) 1 (by decide)) rfl (by decide) dX5_insertsWord_20 ?_
  refine v_aload_n C 1 rfl dX5_insertsWord_23 rfl ?_
  refine v_iload C 0 rfl dX5_insertsWord_24 ?_
  refine v_iload C 5 rfl dX5_insertsWord_26 ?_
  refine v_callV (rest := []) C (c_X5_inserts l hl G m ad (upN ns 15 (ns 15 + 2)) (up2 na 14 f3) ia la h0 ((p + 1) + 1) c (insS T p [a, b]) h3 hm3 hT3 hl3 (by omega) (by omega) ha3 (by omega)) K_X5_157 hm3.1 rfl rfl (Nat.le_of_ble_eq_true rfl) ⟨Nat.le_of_ble_eq_true rfl, Nat.le_of_ble_eq_true rfl⟩ ⟨Nat.le_of_ble_eq_true rfl, Nat.le_of_ble_eq_true rfl⟩ dX5_insertsWord_28 (fun _ h5 q5 => ?_)
  obtain ⟨f5, hm5, hT5⟩ := q5
  rw [show insL (insS T p [a, b]) ((p + 1) + 1) c = (insS T p [a, b, c]) from (insS_end (w := [a, b]) hp)] at hT5
  have hm5 : MR G h0 h5 m ad (upN ns 15 (ns 15 + 3)) (up2 na 14 f5) ia la := by rw [upN_upN, up2_up2] at hm5; exact hm5
  have hl5 : ns 15 + 3 = (insS T p [a, b, c]).length := by rw [insS_len hp]; simp only [List.length_cons, List.length_nil, List.length_append]; omega
  have ha5 : asc (insS T p [a, b, c]) := insS_asc ha (fun z hz => hw z (by simp only [List.mem_cons, List.not_mem_nil, or_false] at hz ⊢; omega))
  refine v_iinc C 0 [(7, .int (nI (((p + 1) + 1) + 1))), (0, .ref m), (1, .int (nI p)), (2, .int (nI a)), (3, .int (nI b)), (4, .int (nI c)), (5, .int (nI e)), (6, .int (nI f))] rfl (nI_inc ((p + 1) + 1) 1 (by decide)) rfl (by decide) dX5_insertsWord_31 ?_
  refine v_aload_n C 1 rfl dX5_insertsWord_34 rfl ?_
  refine v_iload C 0 rfl dX5_insertsWord_35 ?_
  refine v_iload C 6 rfl dX5_insertsWord_37 ?_
  refine v_callV (rest := []) C (c_X5_inserts l hl G m ad (upN ns 15 (ns 15 + 3)) (up2 na 14 f5) ia la h0 (((p + 1) + 1) + 1) e (insS T p [a, b, c]) h5 hm5 hT5 hl5 (by omega) (by omega) ha5 (by omega)) K_X5_157 hm5.1 rfl rfl (Nat.le_of_ble_eq_true rfl) ⟨Nat.le_of_ble_eq_true rfl, Nat.le_of_ble_eq_true rfl⟩ ⟨Nat.le_of_ble_eq_true rfl, Nat.le_of_ble_eq_true rfl⟩ dX5_insertsWord_39 (fun _ h7 q7 => ?_)
  obtain ⟨f7, hm7, hT7⟩ := q7
  rw [show insL (insS T p [a, b, c]) (((p + 1) + 1) + 1) e = (insS T p [a, b, c, e]) from (insS_end (w := [a, b, c]) hp)] at hT7
  have hm7 : MR G h0 h7 m ad (upN ns 15 (ns 15 + 4)) (up2 na 14 f7) ia la := by rw [upN_upN, up2_up2] at hm7; exact hm7
  have hl7 : ns 15 + 4 = (insS T p [a, b, c, e]).length := by rw [insS_len hp]; simp only [List.length_cons, List.length_nil, List.length_append]; omega
  have ha7 : asc (insS T p [a, b, c, e]) := insS_asc ha (fun z hz => hw z (by simp only [List.mem_cons, List.not_mem_nil, or_false] at hz ⊢; omega))
  refine v_iinc C 0 [(7, .int (nI ((((p + 1) + 1) + 1) + 1))), (0, .ref m), (1, .int (nI p)), (2, .int (nI a)), (3, .int (nI b)), (4, .int (nI c)), (5, .int (nI e)), (6, .int (nI f))] rfl (nI_inc (((p + 1) + 1) + 1) 1 (by decide)) rfl (by decide) dX5_insertsWord_42 ?_
  refine v_aload_n C 1 rfl dX5_insertsWord_45 rfl ?_
  refine v_iload C 0 rfl dX5_insertsWord_46 ?_
  refine v_iload C 7 rfl dX5_insertsWord_48 ?_
  refine v_callV (rest := []) C (c_X5_inserts l hl G m ad (upN ns 15 (ns 15 + 4)) (up2 na 14 f7) ia la h0 ((((p + 1) + 1) + 1) + 1) f (insS T p [a, b, c, e]) h7 hm7 hT7 hl7 (by omega) (by omega) ha7 (by omega)) K_X5_157 hm7.1 rfl rfl (Nat.le_of_ble_eq_true rfl) ⟨Nat.le_of_ble_eq_true rfl, Nat.le_of_ble_eq_true rfl⟩ ⟨Nat.le_of_ble_eq_true rfl, Nat.le_of_ble_eq_true rfl⟩ dX5_insertsWord_50 (fun _ h9 q9 => ?_)
  obtain ⟨f9, hm9, hT9⟩ := q9
  rw [show insL (insS T p [a, b, c, e]) ((((p + 1) + 1) + 1) + 1) f = (insS T p [a, b, c, e, f]) from (insS_end (w := [a, b, c, e]) hp)] at hT9
  have hm9 : MR G h0 h9 m ad (upN ns 15 (ns 15 + 5)) (up2 na 14 f9) ia la := by rw [upN_upN, up2_up2] at hm9; exact hm9
  have hl9 : ns 15 + 5 = (insS T p [a, b, c, e, f]).length := by rw [insS_len hp]; simp only [List.length_cons, List.length_nil, List.length_append]; omega
  have ha9 : asc (insS T p [a, b, c, e, f]) := insS_asc ha (fun z hz => hw z (by simp only [List.mem_cons, List.not_mem_nil, or_false] at hz ⊢; omega))
  refine v_iload C 0 rfl dX5_insertsWord_53 ?_
  refine v_iconst (v := 1) C dX5_insertsWord_55 (by decide) ?_
  refine v_iadd C dX5_insertsWord_56 (v_eqi (nI_adk ((((p + 1) + 1) + 1) + 1) 1 (by decide)) ?_)
  exact v_iret C hQ hr rfl (Nat.le_of_ble_eq_true rfl) (Nat.le_of_ble_eq_true rfl) dX5_insertsWord_57 ⟨rfl, _, hm9, hT9⟩

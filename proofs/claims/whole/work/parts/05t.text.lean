set_option maxHeartbeats 4000000 in
set_option maxRecDepth 100000 in
theorem c_X5_inserts (l : Launch) (hl : l.stackTraces = false) (G : zG) (m : Nat) (ad : Nat → Nat) (ns : Nat → Nat) (na : Nat → Nat → Nat) (ia : Nat → Nat → Int32) (la : Nat → Nat → Int64) (h0 : zH) (p c : Nat) (T : List Nat) (h : zH) (hm : MR G h0 h m ad ns na ia la) (hT : txA (na 14) T) (hlen : ns 15 = T.length) (hp : p ≤ T.length) (hlt : T.length < 1000) (ha : asc T) (hc : c < 128) : zMet eV l yX5_inserts cX5_inserts 4 none 12 0 0 G [.ref m, .int (nI p), .int (nI c)] h (fun _ h2 => ∃ f, MR G h0 h2 m ad (upN ns 15 (ns 15 + 1)) (up2 na 14 f) ia la ∧ txA f (insL T p c)) := by
  refine con_of hl RX5 rfl (by decide +kernel) [(0, .ref m), (1, .int (nI p)), (2, .int (nI c))] rfl (Nat.le_of_ble_eq_true rfl) ?_
  intro zp ze zs zm zargs zbelow zmeth zc C hr hin Q hQ
  refine v_aload_n C 0 rfl dX5_inserts_0 rfl ?_
  refine v_get (v := .int (nI (ns 15))) C F_X5_154 hm.1 rfl dX5_inserts_1 ?_
  refine v_istore_n C [(3, .int (nI (ns 15))), (0, .ref m), (1, .int (nI p)), (2, .int (nI c))] rfl (by decide) dX5_inserts_4 rfl ?_
  have L1 : ∀ (d : Nat) (k : Nat) (f : Nat → Nat) (h2 : zH), (p ≤ k) → (k ≤ T.length) → (MR G h0 h2 m ad ns (up2 na 14 f) ia la) → (∀ j, j ≤ k → j < T.length → f j = T.getD j 0) → (∀ j, k < j → j ≤ T.length → f j = T.getD (j - 1) 0) → (k + 1 ≤ d) → V zp l ze (rmm 12 0 0) zs zm zargs zbelow zmeth zc G 4 Q h2 (0) (0) 5 [(3, .int (nI k)), (2, .int (nI c)), (1, .int (nI p)), (0, .ref m)] [] := by
    intro d
    induction d with
    | zero =>
      intro k f h2 hk1 hk2 hm2 hlo hhi hd
      exact absurd hd (by omega)
    | succ d ih1 =>
      intro k f h2 hk1 hk2 hm2 hlo hhi hd
      refine v_iload_n C 0 rfl dX5_inserts_5 rfl ?_
      refine v_iload_n C 2 rfl dX5_inserts_6 rfl ?_
      refine v_icmp_le (tgt := 30) C dX5_inserts_7 (by decide) (fun c2 => ?_) (fun c2 => ?_)
      · have c2 := (nn_le (a := k) (b := p) (by omega) (by omega)).mp c2
        refine v_aload_n C 3 rfl dX5_inserts_30 rfl ?_
        refine v_get (v := .ref (ad 14)) C F_X5_44 hm2.1 rfl dX5_inserts_31 ?_
        refine v_iload_n C 2 rfl dX5_inserts_34 rfl ?_
        refine v_iload_n C 1 rfl dX5_inserts_35 rfl ?_
        refine v_cast C (hm2.2.1 14 rfl) (vpin (show p < 1000 by omega) (by decide)) dX5_inserts_36 (v_nw (fun h3 eh3 => ?_))
        rw [nar_chr (show c < 128 by omega)] at eh3
        have hm3 := hm2.putN (k := 14) rfl (g := f) (i := p) (v := c) (by omega) eh3
        refine v_aload_n C 3 rfl dX5_inserts_37 rfl ?_
        refine v_dup C dX5_inserts_38 rfl ?_
        refine v_get (v := .int (nI (ns 15))) C F_X5_154 hm3.1 rfl dX5_inserts_39 ?_
        refine v_iconst (v := 1) C dX5_inserts_42 (by decide) ?_
        refine v_iadd C dX5_inserts_43 (v_eqi (nI_adk (ns 15) 1 (by decide)) ?_)
        refine v_put C (mC ad (upN ns 15 ((ns 15) + 1))) P_X5_154 hm3.1 rfl rfl rfl (Nat.le_of_ble_eq_true rfl) dX5_inserts_44 (v_nw (fun h5 eh5 => ?_))
        have hm5 := hm3.putS 15 ((ns 15) + 1) rfl eh5
        have hmz := hm5; rw [up2_up2] at hmz
        have hkp : k = p := by omega
        rw [hkp] at hlo hhi
        exact v_vret C hQ hr (Nat.le_of_ble_eq_true rfl) (Nat.le_of_ble_eq_true rfl) dX5_inserts_47 ⟨_, hmz, txA_ins hp hlo hhi⟩
      · have c2 := (nn_le_f (a := k) (b := p) (by omega) (by omega)).mp c2
        refine v_aload_n C 3 rfl dX5_inserts_10 rfl ?_
        refine v_get (v := .ref (ad 14)) C F_X5_44 hm2.1 rfl dX5_inserts_11 ?_
        refine v_iload_n C 0 rfl dX5_inserts_14 rfl ?_
        refine v_aload_n C 3 rfl dX5_inserts_15 rfl ?_
        refine v_get (v := .ref (ad 14)) C F_X5_44 hm2.1 rfl dX5_inserts_16 ?_
        refine v_iload_n C 0 rfl dX5_inserts_19 rfl ?_
        refine v_iconst (v := 1) C dX5_inserts_20 (by decide) ?_
        refine v_isub C dX5_inserts_21 (v_eqi (nI_sbk (a := k) 1 (by decide) (by omega)) ?_)
        refine v_cald C (hm2.2.1 14 rfl) (vpin (show (k - 1) < 1000 by omega) (by decide)) dX5_inserts_22 (v_eqi (y := nI (f (k - 1))) (congrArg (fun j => nI (f j)) (nI_clamp (show (k - 1) < 2 ^ 31 by omega))) ?_)
        have hch : f (k - 1) < 128 := by rw [hlo (k - 1) (by omega) (by omega)]; exact asc_get ha (by omega)
        refine v_cast C (hm2.2.1 14 rfl) (vpin (show k < 1000 by omega) (by decide)) dX5_inserts_23 (v_nw (fun h7 eh7 => ?_))
        rw [nar_chr (show (f (k - 1)) < 128 by omega)] at eh7
        have hm7 := hm2.putN (k := 14) rfl (g := f) (i := k) (v := (f (k - 1))) (by omega) eh7
        refine v_iinc C 0 [(3, .int (nI (k - 1))), (2, .int (nI c)), (1, .int (nI p)), (0, .ref m)] rfl (nI_dec (p := k) (by omega)) rfl (by decide) dX5_inserts_24 ?_
        refine v_goto (tgt := 5) C dX5_inserts_27 (by decide) ?_
        refine v_lvp [0, 1, 2, 3] rfl ?_
        have hmz := hm7; rw [up2_up2] at hmz
        exact ih1 (k - 1) _ h7 (by omega) (by omega) hmz (fun j h1 h2 => by rw [upN_n (by omega)]; exact hlo j (by omega) h2) (fun j h1 h2 => by
              by_cases y : j = k
              · subst y; rw [upN_s]; exact hlo _ (by omega) (by omega)
              · rw [upN_n y]; exact hhi j (by omega) h2) (by omega)
  refine v_lvp [0, 3, 2, 1] rfl ?_
  have hmz : MR G h0 h m ad ns (up2 na 14 (na 14)) ia la := by rw [up2_id]; exact hm
  rw [hlen]
  exact L1 (T.length + 1) T.length (na 14) h hp (Nat.le_refl _) hmz (fun j _ hj => hT j hj) (fun j h1 h2 => absurd h1 (by omega)) (by omega)
set_option maxHeartbeats 4000000 in
set_option maxRecDepth 100000 in
theorem c_X5_insertsWord (l : Launch) (hl : l.stackTraces = false) (G : zG) (m : Nat) (ad : Nat → Nat) (ns : Nat → Nat) (na : Nat → Nat → Nat) (ia : Nat → Nat → Int32) (la : Nat → Nat → Int64) (h0 : zH) (p a b c e f : Nat) (T : List Nat) (h : zH) (hm : MR G h0 h m ad ns na ia la) (hT : txA (na 14) T) (hlen : ns 15 = T.length) (hp : p ≤ T.length) (hlt : T.length < 990) (ha : asc T) (hw : ∀ z ∈ [a, b, c, e, f], z < 128) : zMet eI l yX5_insertsWord cX5_insertsWord 8 (some .int) 13 0 0 G [.ref m, .int (nI p), .int (nI a), .int (nI b), .int (nI c), .int (nI e), .int (nI f)] h (fun r h2 => r = nI (p + 5) ∧ ∃ f2, MR G h0 h2 m ad (upN ns 15 (ns 15 + 5)) (up2 na 14 f2) ia la ∧ txA f2 (insS T p [a, b, c, e, f])) := by
  refine con_of hl RX5 rfl (by decide +kernel) [(0, .ref m), (1, .int (nI p)), (2, .int (nI a)), (3, .int (nI b)), (4, .int (nI c)), (5, .int (nI e)), (6, .int (nI f))] rfl (Nat.le_of_ble_eq_true rfl) ?_
  intro zp ze zs zm zargs zbelow zmeth zc C hr hin Q hQ
  have hwa := hw a (by simp)
  have hwb := hw b (by simp)
  have hwc := hw c (by simp)
  have hwe := hw e (by simp)
  have hwf := hw f (by simp)
  refine v_iload_n C 1 rfl dX5_insertsWord_0 rfl ?_
  refine v_istore C [(7, .int (nI p)), (0, .ref m), (1, .int (nI p)), (2, .int (nI a)), (3, .int (nI b)), (4, .int (nI c)), (5, .int (nI e)), (6, .int (nI f))] rfl (by decide) dX5_insertsWord_1 ?_
  refine v_aload_n C 1 rfl dX5_insertsWord_3 rfl ?_
  refine v_iload C 0 rfl dX5_insertsWord_4 ?_
  refine v_iload_n C 3 rfl dX5_insertsWord_6 rfl ?_
  refine v_callV (rest := []) C (c_X5_inserts l hl G m ad ns na ia la h0 p a T h hm hT hlen (by omega) (by omega) ha (by omega)) K_X5_157 hm.1 rfl rfl (Nat.le_of_ble_eq_true rfl) ⟨Nat.le_of_ble_eq_true rfl, Nat.le_of_ble_eq_true rfl⟩ ⟨Nat.le_of_ble_eq_true rfl, Nat.le_of_ble_eq_true rfl⟩ dX5_insertsWord_7 (fun _ h1 q1 => ?_)
  obtain ⟨f1, hm1, hT1⟩ := q1
  have eq1 : insL T p a = (insS T p [a]) := rfl
  rw [eq1] at hT1
  have hl1 : ns 15 + 1 = (insS T p [a]).length := by rw [insS_len hp]; simp only [List.length_cons, List.length_nil, List.length_append]; omega
  have ha1 : asc (insS T p [a]) := insS_asc ha (fun z hz => hw z (by simp only [List.mem_cons, List.not_mem_nil, or_false] at hz ⊢; omega))
  refine v_iinc C 0 [(7, .int (nI (p + 1))), (0, .ref m), (1, .int (nI p)), (2, .int (nI a)), (3, .int (nI b)), (4, .int (nI c)), (5, .int (nI e)), (6, .int (nI f))] rfl (nI_inc p 1 (by decide)) rfl (by decide) dX5_insertsWord_10 ?_
  refine v_aload_n C 1 rfl dX5_insertsWord_13 rfl ?_
  refine v_iload C 0 rfl dX5_insertsWord_14 ?_
  refine v_iload_n C 4 rfl dX5_insertsWord_16 rfl ?_
  refine v_callV (rest := []) C (c_X5_inserts l hl G m ad (upN ns 15 (ns 15 + 1)) (up2 na 14 f1) ia la h0 (p + 1) b (insS T p [a]) h1 hm1 hT1 hl1 (by omega) (by omega) ha1 (by omega)) K_X5_157 hm1.1 rfl rfl (Nat.le_of_ble_eq_true rfl) ⟨Nat.le_of_ble_eq_true rfl, Nat.le_of_ble_eq_true rfl⟩ ⟨Nat.le_of_ble_eq_true rfl, Nat.le_of_ble_eq_true rfl⟩ dX5_insertsWord_17 (fun _ h3 q3 => ?_)
  obtain ⟨f3, hm3, hT3⟩ := q3
  have eq3 : insL (insS T p [a]) (p + 1) b = (insS T p [a, b]) := (insS_end (w := [a]) hp)
  rw [eq3] at hT3
  have hm3 : MR G h0 h3 m ad (upN ns 15 (ns 15 + 2)) (up2 na 14 f3) ia la := by rw [upN_upN, up2_up2] at hm3; exact hm3
  have hl3 : ns 15 + 2 = (insS T p [a, b]).length := by rw [insS_len hp]; simp only [List.length_cons, List.length_nil, List.length_append]; omega
  have ha3 : asc (insS T p [a, b]) := insS_asc ha (fun z hz => hw z (by simp only [List.mem_cons, List.not_mem_nil, or_false] at hz ⊢; omega))
  refine v_iinc C 0 [(7, .int (nI ((p + 1) + 1))), (0, .ref m), (1, .int (nI p)), (2, .int (nI a)), (3, .int (nI b)), (4, .int (nI c)), (5, .int (nI e)), (6, .int (nI f))] rfl (nI_inc (p + 1) 1 (by decide)) rfl (by decide) dX5_insertsWord_20 ?_
  refine v_aload_n C 1 rfl dX5_insertsWord_23 rfl ?_
  refine v_iload C 0 rfl dX5_insertsWord_24 ?_
  refine v_iload C 5 rfl dX5_insertsWord_26 ?_
  refine v_callV (rest := []) C (c_X5_inserts l hl G m ad (upN ns 15 (ns 15 + 2)) (up2 na 14 f3) ia la h0 ((p + 1) + 1) c (insS T p [a, b]) h3 hm3 hT3 hl3 (by omega) (by omega) ha3 (by omega)) K_X5_157 hm3.1 rfl rfl (Nat.le_of_ble_eq_true rfl) ⟨Nat.le_of_ble_eq_true rfl, Nat.le_of_ble_eq_true rfl⟩ ⟨Nat.le_of_ble_eq_true rfl, Nat.le_of_ble_eq_true rfl⟩ dX5_insertsWord_28 (fun _ h5 q5 => ?_)
  obtain ⟨f5, hm5, hT5⟩ := q5
  have eq5 : insL (insS T p [a, b]) ((p + 1) + 1) c = (insS T p [a, b, c]) := (insS_end (w := [a, b]) hp)
  rw [eq5] at hT5
  have hm5 : MR G h0 h5 m ad (upN ns 15 (ns 15 + 3)) (up2 na 14 f5) ia la := by rw [upN_upN, up2_up2] at hm5; exact hm5
  have hl5 : ns 15 + 3 = (insS T p [a, b, c]).length := by rw [insS_len hp]; simp only [List.length_cons, List.length_nil, List.length_append]; omega
  have ha5 : asc (insS T p [a, b, c]) := insS_asc ha (fun z hz => hw z (by simp only [List.mem_cons, List.not_mem_nil, or_false] at hz ⊢; omega))
  refine v_iinc C 0 [(7, .int (nI (((p + 1) + 1) + 1))), (0, .ref m), (1, .int (nI p)), (2, .int (nI a)), (3, .int (nI b)), (4, .int (nI c)), (5, .int (nI e)), (6, .int (nI f))] rfl (nI_inc ((p + 1) + 1) 1 (by decide)) rfl (by decide) dX5_insertsWord_31 ?_
  refine v_aload_n C 1 rfl dX5_insertsWord_34 rfl ?_
  refine v_iload C 0 rfl dX5_insertsWord_35 ?_
  refine v_iload C 6 rfl dX5_insertsWord_37 ?_
  refine v_callV (rest := []) C (c_X5_inserts l hl G m ad (upN ns 15 (ns 15 + 3)) (up2 na 14 f5) ia la h0 (((p + 1) + 1) + 1) e (insS T p [a, b, c]) h5 hm5 hT5 hl5 (by omega) (by omega) ha5 (by omega)) K_X5_157 hm5.1 rfl rfl (Nat.le_of_ble_eq_true rfl) ⟨Nat.le_of_ble_eq_true rfl, Nat.le_of_ble_eq_true rfl⟩ ⟨Nat.le_of_ble_eq_true rfl, Nat.le_of_ble_eq_true rfl⟩ dX5_insertsWord_39 (fun _ h7 q7 => ?_)
  obtain ⟨f7, hm7, hT7⟩ := q7
  have eq7 : insL (insS T p [a, b, c]) (((p + 1) + 1) + 1) e = (insS T p [a, b, c, e]) := (insS_end (w := [a, b, c]) hp)
  rw [eq7] at hT7
  have hm7 : MR G h0 h7 m ad (upN ns 15 (ns 15 + 4)) (up2 na 14 f7) ia la := by rw [upN_upN, up2_up2] at hm7; exact hm7
  have hl7 : ns 15 + 4 = (insS T p [a, b, c, e]).length := by rw [insS_len hp]; simp only [List.length_cons, List.length_nil, List.length_append]; omega
  have ha7 : asc (insS T p [a, b, c, e]) := insS_asc ha (fun z hz => hw z (by simp only [List.mem_cons, List.not_mem_nil, or_false] at hz ⊢; omega))
  refine v_iinc C 0 [(7, .int (nI ((((p + 1) + 1) + 1) + 1))), (0, .ref m), (1, .int (nI p)), (2, .int (nI a)), (3, .int (nI b)), (4, .int (nI c)), (5, .int (nI e)), (6, .int (nI f))] rfl (nI_inc (((p + 1) + 1) + 1) 1 (by decide)) rfl (by decide) dX5_insertsWord_42 ?_
  refine v_aload_n C 1 rfl dX5_insertsWord_45 rfl ?_
  refine v_iload C 0 rfl dX5_insertsWord_46 ?_
  refine v_iload C 7 rfl dX5_insertsWord_48 ?_
  refine v_callV (rest := []) C (c_X5_inserts l hl G m ad (upN ns 15 (ns 15 + 4)) (up2 na 14 f7) ia la h0 ((((p + 1) + 1) + 1) + 1) f (insS T p [a, b, c, e]) h7 hm7 hT7 hl7 (by omega) (by omega) ha7 (by omega)) K_X5_157 hm7.1 rfl rfl (Nat.le_of_ble_eq_true rfl) ⟨Nat.le_of_ble_eq_true rfl, Nat.le_of_ble_eq_true rfl⟩ ⟨Nat.le_of_ble_eq_true rfl, Nat.le_of_ble_eq_true rfl⟩ dX5_insertsWord_50 (fun _ h9 q9 => ?_)
  obtain ⟨f9, hm9, hT9⟩ := q9
  have eq9 : insL (insS T p [a, b, c, e]) ((((p + 1) + 1) + 1) + 1) f = (insS T p [a, b, c, e, f]) := (insS_end (w := [a, b, c, e]) hp)
  rw [eq9] at hT9
  have hm9 : MR G h0 h9 m ad (upN ns 15 (ns 15 + 5)) (up2 na 14 f9) ia la := by rw [upN_upN, up2_up2] at hm9; exact hm9
  have hl9 : ns 15 + 5 = (insS T p [a, b, c, e, f]).length := by rw [insS_len hp]; simp only [List.length_cons, List.length_nil, List.length_append]; omega
  have ha9 : asc (insS T p [a, b, c, e, f]) := insS_asc ha (fun z hz => hw z (by simp only [List.mem_cons, List.not_mem_nil, or_false] at hz ⊢; omega))
  refine v_iload C 0 rfl dX5_insertsWord_53 ?_
  refine v_iconst (v := 1) C dX5_insertsWord_55 (by decide) ?_
  refine v_iadd C dX5_insertsWord_56 (v_eqi (nI_adk ((((p + 1) + 1) + 1) + 1) 1 (by decide)) ?_)
  exact v_iret C hQ hr rfl (Nat.le_of_ble_eq_true rfl) (Nat.le_of_ble_eq_true rfl) dX5_insertsWord_57 ⟨rfl, _, hm9, hT9⟩
set_option maxHeartbeats 4000000 in
set_option maxRecDepth 100000 in
theorem c_X5_joinsText (l : Launch) (hl : l.stackTraces = false) (G : zG) (m : Nat) (ad : Nat → Nat) (ns : Nat → Nat) (na : Nat → Nat → Nat) (ia : Nat → Nat → Int32) (la : Nat → Nat → Int64) (h0 : zH) (kd : Nat) (X A B : List Nat) (h : zH) (hm : MR G h0 h m ad ns na ia la) (hk4 : kd < 4) (hT : txA (na 14) (X ++ (A ++ B))) (hlen : ns 15 = (X ++ (A ++ B)).length) (hlt : (X ++ (A ++ B)).length < 900) (ha : asc (X ++ (A ++ B))) : zMet eV l yX5_joinsText cX5_joinsText 4 none 13 0 0 G [.ref m, .int (nI kd), .int (nI X.length), .int (nI (X.length + A.length))] h (fun _ h2 => ∃ f n, MR G h0 h2 m ad (upN ns 15 n) (up2 na 14 f) ia la ∧ n = (X ++ sjt kd A B).length ∧ txA f (X ++ sjt kd A B)) := by
  refine con_of hl RX5 rfl (by decide +kernel) [(0, .ref m), (1, .int (nI kd)), (2, .int (nI X.length)), (3, .int (nI (X.length + A.length)))] rfl (Nat.le_of_ble_eq_true rfl) ?_
  intro zp ze zs zm zargs zbelow zmeth zc C hr hin Q hQ
  have hXA : X.length + A.length ≤ (X ++ (A ++ B)).length := by rw [List.length_append, List.length_append]; omega
  obtain ⟨T, hTe⟩ : ∃ T, T = X ++ (A ++ B) := ⟨_, rfl⟩
  rw [← hTe] at hT hlen ha hlt hXA
  refine v_aload_n C 0 rfl dX5_joinsText_0 rfl ?_
  refine v_aload_n C 0 rfl dX5_joinsText_1 rfl ?_
  refine v_get (v := .int (nI (ns 15))) C F_X5_154 hm.1 rfl dX5_joinsText_2 ?_
  refine v_bipush (v := 41) C dX5_joinsText_5 (by decide) ?_
  refine v_callV (rest := []) C (c_X5_inserts l hl G m ad ns na ia la h0 (ns 15) 41 T h hm hT hlen (by omega) (by omega) ha (by decide)) K_X5_157 hm.1 rfl rfl (Nat.le_of_ble_eq_true rfl) ⟨Nat.le_of_ble_eq_true rfl, Nat.le_of_ble_eq_true rfl⟩ ⟨Nat.le_of_ble_eq_true rfl, Nat.le_of_ble_eq_true rfl⟩ dX5_joinsText_7 (fun _ h1 q1 => ?_)
  obtain ⟨f1, hm1, hT1⟩ := q1
  have eq1 : insL T (ns 15) 41 = (T ++ [41]) := insL_at (P := T) (Q := []) (List.append_nil T).symm hlen
  rw [eq1] at hT1
  have hl1 : ns 15 + 1 = (T ++ [41]).length := by rw [← eq1, insL_len (by omega)]; omega
  have ha1 : asc (T ++ [41]) := (by have q := insL_asc (p := (ns 15)) (c := 41) ha (by decide); rw [eq1] at q; exact q)
  refine v_iload_n C 1 rfl dX5_joinsText_10 rfl ?_
  refine v_iconst (v := 2) C dX5_joinsText_11 (by decide) ?_
  refine v_icmp_ge (tgt := 55) C dX5_joinsText_12 (by decide) (fun c2 => ?_) (fun c2 => ?_)
  · have c2 := (nk_ge (a := kd) 2 (by decide) (by omega) (by decide)).mp c2
    have y3 : ¬ kd < 2 := by omega
    have y3a : ¬ kd = 0 := by omega
    have y3b : ¬ kd = 1 := by omega
    refine v_aload_n C 0 rfl dX5_joinsText_55 rfl ?_
    refine v_iload_n C 3 rfl dX5_joinsText_56 rfl ?_
    refine v_bipush (v := 32) C dX5_joinsText_57 (by decide) ?_
    refine v_callV (rest := []) C (c_X5_inserts l hl G m ad (upN ns 15 (ns 15 + 1)) (up2 na 14 f1) ia la h0 (X.length + A.length) 32 (T ++ [41]) h1 hm1 hT1 hl1 (by omega) (by omega) ha1 (by decide)) K_X5_157 hm1.1 rfl rfl (Nat.le_of_ble_eq_true rfl) ⟨Nat.le_of_ble_eq_true rfl, Nat.le_of_ble_eq_true rfl⟩ ⟨Nat.le_of_ble_eq_true rfl, Nat.le_of_ble_eq_true rfl⟩ dX5_joinsText_59 (fun _ h4 q4 => ?_)
    obtain ⟨f4, hm4, hT4⟩ := q4
    have eq4 : insL (T ++ [41]) (X.length + A.length) 32 = ((X ++ A) ++ (32 :: (B ++ [41]))) := insL_at (P := X ++ A) (Q := (B ++ [41])) (by rw [hTe]; simp [List.append_assoc]) (by rw [List.length_append])
    rw [eq4] at hT4
    have hm4 : MR G h0 h4 m ad (upN ns 15 (ns 15 + 2)) (up2 na 14 f4) ia la := by rw [upN_upN, up2_up2] at hm4; exact hm4
    have hl4 : ns 15 + 2 = ((X ++ A) ++ (32 :: (B ++ [41]))).length := by rw [← eq4, insL_len (by omega)]; omega
    have ha4 : asc ((X ++ A) ++ (32 :: (B ++ [41]))) := (by have q := insL_asc (p := (X.length + A.length)) (c := 32) ha1 (by decide); rw [eq4] at q; exact q)
    refine v_aload_n C 0 rfl dX5_joinsText_62 rfl ?_
    refine v_iload_n C 3 rfl dX5_joinsText_63 rfl ?_
    refine v_bipush (v := 44) C dX5_joinsText_64 (by decide) ?_
    refine v_callV (rest := []) C (c_X5_inserts l hl G m ad (upN ns 15 (ns 15 + 2)) (up2 na 14 f4) ia la h0 (X.length + A.length) 44 ((X ++ A) ++ (32 :: (B ++ [41]))) h4 hm4 hT4 hl4 (by omega) (by omega) ha4 (by decide)) K_X5_157 hm4.1 rfl rfl (Nat.le_of_ble_eq_true rfl) ⟨Nat.le_of_ble_eq_true rfl, Nat.le_of_ble_eq_true rfl⟩ ⟨Nat.le_of_ble_eq_true rfl, Nat.le_of_ble_eq_true rfl⟩ dX5_joinsText_66 (fun _ h5 q5 => ?_)
    obtain ⟨f5, hm5, hT5⟩ := q5
    have eq5 : insL ((X ++ A) ++ (32 :: (B ++ [41]))) (X.length + A.length) 44 = ((X ++ A) ++ (44 :: (32 :: (B ++ [41])))) := insL_at (P := X ++ A) (Q := (32 :: (B ++ [41]))) rfl (by rw [List.length_append])
    rw [eq5] at hT5
    have hm5 : MR G h0 h5 m ad (upN ns 15 (ns 15 + 3)) (up2 na 14 f5) ia la := by rw [upN_upN, up2_up2] at hm5; exact hm5
    have hl5 : ns 15 + 3 = ((X ++ A) ++ (44 :: (32 :: (B ++ [41])))).length := by rw [← eq5, insL_len (by omega)]; omega
    have ha5 : asc ((X ++ A) ++ (44 :: (32 :: (B ++ [41])))) := (by have q := insL_asc (p := (X.length + A.length)) (c := 44) ha4 (by decide); rw [eq5] at q; exact q)
    refine v_aload_n C 0 rfl dX5_joinsText_69 rfl ?_
    refine v_iload_n C 2 rfl dX5_joinsText_70 rfl ?_
    refine v_bipush (v := 40) C dX5_joinsText_71 (by decide) ?_
    refine v_callV (rest := []) C (c_X5_inserts l hl G m ad (upN ns 15 (ns 15 + 3)) (up2 na 14 f5) ia la h0 X.length 40 ((X ++ A) ++ (44 :: (32 :: (B ++ [41])))) h5 hm5 hT5 hl5 (by omega) (by omega) ha5 (by decide)) K_X5_157 hm5.1 rfl rfl (Nat.le_of_ble_eq_true rfl) ⟨Nat.le_of_ble_eq_true rfl, Nat.le_of_ble_eq_true rfl⟩ ⟨Nat.le_of_ble_eq_true rfl, Nat.le_of_ble_eq_true rfl⟩ dX5_joinsText_73 (fun _ h6 q6 => ?_)
    obtain ⟨f6, hm6, hT6⟩ := q6
    have eq6 : insL ((X ++ A) ++ (44 :: (32 :: (B ++ [41])))) X.length 40 = (X ++ (40 :: (A ++ (44 :: (32 :: (B ++ [41])))))) := insL_at (P := X) (Q := (A ++ (44 :: (32 :: (B ++ [41]))))) (List.append_assoc _ _ _) rfl
    rw [eq6] at hT6
    have hm6 : MR G h0 h6 m ad (upN ns 15 (ns 15 + 4)) (up2 na 14 f6) ia la := by rw [upN_upN, up2_up2] at hm6; exact hm6
    have hl6 : ns 15 + 4 = (X ++ (40 :: (A ++ (44 :: (32 :: (B ++ [41])))))).length := by rw [← eq6, insL_len (by omega)]; omega
    have ha6 : asc (X ++ (40 :: (A ++ (44 :: (32 :: (B ++ [41])))))) := (by have q := insL_asc (p := X.length) (c := 40) ha5 (by decide); rw [eq6] at q; exact q)
    refine v_aload_n C 0 rfl dX5_joinsText_76 rfl ?_
    refine v_iload_n C 2 rfl dX5_joinsText_77 rfl ?_
    refine v_iload_n C 1 rfl dX5_joinsText_78 rfl ?_
    refine v_iconst (v := 2) C dX5_joinsText_79 (by decide) ?_
    refine v_icmp_ne (tgt := 88) C dX5_joinsText_80 (by decide) (fun c7 => ?_) (fun c7 => ?_)
    · have c7 := (nk_ne (a := kd) 2 (by decide) (by omega) (by decide)).mp c7
      have y8 : ¬ kd = 2 := by omega
      have y8a : kd = 3 := by omega
      refine v_bipush (v := 120) C dX5_joinsText_88 (by decide) ?_
      refine v_callV (rest := []) C (c_X5_inserts l hl G m ad (upN ns 15 (ns 15 + 4)) (up2 na 14 f6) ia la h0 X.length 120 (X ++ (40 :: (A ++ (44 :: (32 :: (B ++ [41])))))) h6 hm6 hT6 hl6 (by omega) (by omega) ha6 (by decide)) K_X5_157 hm6.1 rfl rfl (Nat.le_of_ble_eq_true rfl) ⟨Nat.le_of_ble_eq_true rfl, Nat.le_of_ble_eq_true rfl⟩ ⟨Nat.le_of_ble_eq_true rfl, Nat.le_of_ble_eq_true rfl⟩ dX5_joinsText_90 (fun _ h9 q9 => ?_)
      obtain ⟨f9, hm9, hT9⟩ := q9
      have eq9 : insL (X ++ (40 :: (A ++ (44 :: (32 :: (B ++ [41])))))) X.length 120 = (X ++ (120 :: (40 :: (A ++ (44 :: (32 :: (B ++ [41]))))))) := insL_at (P := X) (Q := (40 :: (A ++ (44 :: (32 :: (B ++ [41])))))) rfl rfl
      rw [eq9] at hT9
      have hm9 : MR G h0 h9 m ad (upN ns 15 (ns 15 + 5)) (up2 na 14 f9) ia la := by rw [upN_upN, up2_up2] at hm9; exact hm9
      have hl9 : ns 15 + 5 = (X ++ (120 :: (40 :: (A ++ (44 :: (32 :: (B ++ [41]))))))).length := by rw [← eq9, insL_len (by omega)]; omega
      have ha9 : asc (X ++ (120 :: (40 :: (A ++ (44 :: (32 :: (B ++ [41]))))))) := (by have q := insL_asc (p := X.length) (c := 120) ha6 (by decide); rw [eq9] at q; exact q)
      refine v_aload_n C 0 rfl dX5_joinsText_93 rfl ?_
      refine v_iload_n C 2 rfl dX5_joinsText_94 rfl ?_
      refine v_iload_n C 1 rfl dX5_joinsText_95 rfl ?_
      refine v_iconst (v := 2) C dX5_joinsText_96 (by decide) ?_
      refine v_icmp_ne (tgt := 105) C dX5_joinsText_97 (by decide) (fun c10 => ?_) (fun c10 => absurd c10 ((nk_ne (a := kd) (y := 2) 2 (by decide) (by omega) (by decide)).mpr (by omega)))
      have c10 := (nk_ne (a := kd) 2 (by decide) (by omega) (by decide)).mp c10
      refine v_bipush (v := 97) C dX5_joinsText_105 (by decide) ?_
      refine v_callV (rest := []) C (c_X5_inserts l hl G m ad (upN ns 15 (ns 15 + 5)) (up2 na 14 f9) ia la h0 X.length 97 (X ++ (120 :: (40 :: (A ++ (44 :: (32 :: (B ++ [41]))))))) h9 hm9 hT9 hl9 (by omega) (by omega) ha9 (by decide)) K_X5_157 hm9.1 rfl rfl (Nat.le_of_ble_eq_true rfl) ⟨Nat.le_of_ble_eq_true rfl, Nat.le_of_ble_eq_true rfl⟩ ⟨Nat.le_of_ble_eq_true rfl, Nat.le_of_ble_eq_true rfl⟩ dX5_joinsText_107 (fun _ h11 q11 => ?_)
      obtain ⟨f11, hm11, hT11⟩ := q11
      have eq11 : insL (X ++ (120 :: (40 :: (A ++ (44 :: (32 :: (B ++ [41]))))))) X.length 97 = (X ++ (97 :: (120 :: (40 :: (A ++ (44 :: (32 :: (B ++ [41])))))))) := insL_at (P := X) (Q := (120 :: (40 :: (A ++ (44 :: (32 :: (B ++ [41]))))))) rfl rfl
      rw [eq11] at hT11
      have hm11 : MR G h0 h11 m ad (upN ns 15 (ns 15 + 6)) (up2 na 14 f11) ia la := by rw [upN_upN, up2_up2] at hm11; exact hm11
      have hl11 : ns 15 + 6 = (X ++ (97 :: (120 :: (40 :: (A ++ (44 :: (32 :: (B ++ [41])))))))).length := by rw [← eq11, insL_len (by omega)]; omega
      have ha11 : asc (X ++ (97 :: (120 :: (40 :: (A ++ (44 :: (32 :: (B ++ [41])))))))) := (by have q := insL_asc (p := X.length) (c := 97) ha9 (by decide); rw [eq11] at q; exact q)
      refine v_aload_n C 0 rfl dX5_joinsText_110 rfl ?_
      refine v_iload_n C 2 rfl dX5_joinsText_111 rfl ?_
      refine v_bipush (v := 109) C dX5_joinsText_112 (by decide) ?_
      refine v_callV (rest := []) C (c_X5_inserts l hl G m ad (upN ns 15 (ns 15 + 6)) (up2 na 14 f11) ia la h0 X.length 109 (X ++ (97 :: (120 :: (40 :: (A ++ (44 :: (32 :: (B ++ [41])))))))) h11 hm11 hT11 hl11 (by omega) (by omega) ha11 (by decide)) K_X5_157 hm11.1 rfl rfl (Nat.le_of_ble_eq_true rfl) ⟨Nat.le_of_ble_eq_true rfl, Nat.le_of_ble_eq_true rfl⟩ ⟨Nat.le_of_ble_eq_true rfl, Nat.le_of_ble_eq_true rfl⟩ dX5_joinsText_114 (fun _ h12 q12 => ?_)
      obtain ⟨f12, hm12, hT12⟩ := q12
      have eq12 : insL (X ++ (97 :: (120 :: (40 :: (A ++ (44 :: (32 :: (B ++ [41])))))))) X.length 109 = (X ++ (109 :: (97 :: (120 :: (40 :: (A ++ (44 :: (32 :: (B ++ [41]))))))))) := insL_at (P := X) (Q := (97 :: (120 :: (40 :: (A ++ (44 :: (32 :: (B ++ [41])))))))) rfl rfl
      rw [eq12] at hT12
      have hm12 : MR G h0 h12 m ad (upN ns 15 (ns 15 + 7)) (up2 na 14 f12) ia la := by rw [upN_upN, up2_up2] at hm12; exact hm12
      have hl12 : ns 15 + 7 = (X ++ (109 :: (97 :: (120 :: (40 :: (A ++ (44 :: (32 :: (B ++ [41]))))))))).length := by rw [← eq12, insL_len (by omega)]; omega
      have ha12 : asc (X ++ (109 :: (97 :: (120 :: (40 :: (A ++ (44 :: (32 :: (B ++ [41]))))))))) := (by have q := insL_asc (p := X.length) (c := 109) ha11 (by decide); rw [eq12] at q; exact q)
      have hfin : (X ++ (109 :: (97 :: (120 :: (40 :: (A ++ (44 :: (32 :: (B ++ [41]))))))))) = X ++ sjt kd A B := by unfold sjt; simp [y3, y3a, y3b, y8, y8a, List.append_assoc]
      exact v_vret C hQ hr (Nat.le_of_ble_eq_true rfl) (Nat.le_of_ble_eq_true rfl) dX5_joinsText_117 ⟨_, _, hm12, (by rw [← hfin]; exact hl12), (by rw [← hfin]; exact hT12)⟩
    · have c7 := (nk_ne_f (a := kd) 2 (by decide) (by omega) (by decide)).mp c7
      have y13 : kd = 2 := by omega
      refine v_bipush (v := 110) C dX5_joinsText_83 (by decide) ?_
      refine v_goto (tgt := 90) C dX5_joinsText_85 (by decide) ?_
      refine v_callV (rest := []) C (c_X5_inserts l hl G m ad (upN ns 15 (ns 15 + 4)) (up2 na 14 f6) ia la h0 X.length 110 (X ++ (40 :: (A ++ (44 :: (32 :: (B ++ [41])))))) h6 hm6 hT6 hl6 (by omega) (by omega) ha6 (by decide)) K_X5_157 hm6.1 rfl rfl (Nat.le_of_ble_eq_true rfl) ⟨Nat.le_of_ble_eq_true rfl, Nat.le_of_ble_eq_true rfl⟩ ⟨Nat.le_of_ble_eq_true rfl, Nat.le_of_ble_eq_true rfl⟩ dX5_joinsText_90 (fun _ h14 q14 => ?_)
      obtain ⟨f14, hm14, hT14⟩ := q14
      have eq14 : insL (X ++ (40 :: (A ++ (44 :: (32 :: (B ++ [41])))))) X.length 110 = (X ++ (110 :: (40 :: (A ++ (44 :: (32 :: (B ++ [41]))))))) := insL_at (P := X) (Q := (40 :: (A ++ (44 :: (32 :: (B ++ [41])))))) rfl rfl
      rw [eq14] at hT14
      have hm14 : MR G h0 h14 m ad (upN ns 15 (ns 15 + 5)) (up2 na 14 f14) ia la := by rw [upN_upN, up2_up2] at hm14; exact hm14
      have hl14 : ns 15 + 5 = (X ++ (110 :: (40 :: (A ++ (44 :: (32 :: (B ++ [41]))))))).length := by rw [← eq14, insL_len (by omega)]; omega
      have ha14 : asc (X ++ (110 :: (40 :: (A ++ (44 :: (32 :: (B ++ [41]))))))) := (by have q := insL_asc (p := X.length) (c := 110) ha6 (by decide); rw [eq14] at q; exact q)
      refine v_aload_n C 0 rfl dX5_joinsText_93 rfl ?_
      refine v_iload_n C 2 rfl dX5_joinsText_94 rfl ?_
      refine v_iload_n C 1 rfl dX5_joinsText_95 rfl ?_
      refine v_iconst (v := 2) C dX5_joinsText_96 (by decide) ?_
      refine v_icmp_ne (tgt := 105) C dX5_joinsText_97 (by decide) (fun c15 => absurd ((nk_ne (a := kd) 2 (by decide) (by omega) (by decide)).mp c15) (by omega)) (fun c15 => ?_)
      have c15 := (nk_ne_f (a := kd) 2 (by decide) (by omega) (by decide)).mp c15
      refine v_bipush (v := 105) C dX5_joinsText_100 (by decide) ?_
      refine v_goto (tgt := 107) C dX5_joinsText_102 (by decide) ?_
      refine v_callV (rest := []) C (c_X5_inserts l hl G m ad (upN ns 15 (ns 15 + 5)) (up2 na 14 f14) ia la h0 X.length 105 (X ++ (110 :: (40 :: (A ++ (44 :: (32 :: (B ++ [41]))))))) h14 hm14 hT14 hl14 (by omega) (by omega) ha14 (by decide)) K_X5_157 hm14.1 rfl rfl (Nat.le_of_ble_eq_true rfl) ⟨Nat.le_of_ble_eq_true rfl, Nat.le_of_ble_eq_true rfl⟩ ⟨Nat.le_of_ble_eq_true rfl, Nat.le_of_ble_eq_true rfl⟩ dX5_joinsText_107 (fun _ h16 q16 => ?_)
      obtain ⟨f16, hm16, hT16⟩ := q16
      have eq16 : insL (X ++ (110 :: (40 :: (A ++ (44 :: (32 :: (B ++ [41]))))))) X.length 105 = (X ++ (105 :: (110 :: (40 :: (A ++ (44 :: (32 :: (B ++ [41])))))))) := insL_at (P := X) (Q := (110 :: (40 :: (A ++ (44 :: (32 :: (B ++ [41]))))))) rfl rfl
      rw [eq16] at hT16
      have hm16 : MR G h0 h16 m ad (upN ns 15 (ns 15 + 6)) (up2 na 14 f16) ia la := by rw [upN_upN, up2_up2] at hm16; exact hm16
      have hl16 : ns 15 + 6 = (X ++ (105 :: (110 :: (40 :: (A ++ (44 :: (32 :: (B ++ [41])))))))).length := by rw [← eq16, insL_len (by omega)]; omega
      have ha16 : asc (X ++ (105 :: (110 :: (40 :: (A ++ (44 :: (32 :: (B ++ [41])))))))) := (by have q := insL_asc (p := X.length) (c := 105) ha14 (by decide); rw [eq16] at q; exact q)
      refine v_aload_n C 0 rfl dX5_joinsText_110 rfl ?_
      refine v_iload_n C 2 rfl dX5_joinsText_111 rfl ?_
      refine v_bipush (v := 109) C dX5_joinsText_112 (by decide) ?_
      refine v_callV (rest := []) C (c_X5_inserts l hl G m ad (upN ns 15 (ns 15 + 6)) (up2 na 14 f16) ia la h0 X.length 109 (X ++ (105 :: (110 :: (40 :: (A ++ (44 :: (32 :: (B ++ [41])))))))) h16 hm16 hT16 hl16 (by omega) (by omega) ha16 (by decide)) K_X5_157 hm16.1 rfl rfl (Nat.le_of_ble_eq_true rfl) ⟨Nat.le_of_ble_eq_true rfl, Nat.le_of_ble_eq_true rfl⟩ ⟨Nat.le_of_ble_eq_true rfl, Nat.le_of_ble_eq_true rfl⟩ dX5_joinsText_114 (fun _ h17 q17 => ?_)
      obtain ⟨f17, hm17, hT17⟩ := q17
      have eq17 : insL (X ++ (105 :: (110 :: (40 :: (A ++ (44 :: (32 :: (B ++ [41])))))))) X.length 109 = (X ++ (109 :: (105 :: (110 :: (40 :: (A ++ (44 :: (32 :: (B ++ [41]))))))))) := insL_at (P := X) (Q := (105 :: (110 :: (40 :: (A ++ (44 :: (32 :: (B ++ [41])))))))) rfl rfl
      rw [eq17] at hT17
      have hm17 : MR G h0 h17 m ad (upN ns 15 (ns 15 + 7)) (up2 na 14 f17) ia la := by rw [upN_upN, up2_up2] at hm17; exact hm17
      have hl17 : ns 15 + 7 = (X ++ (109 :: (105 :: (110 :: (40 :: (A ++ (44 :: (32 :: (B ++ [41]))))))))).length := by rw [← eq17, insL_len (by omega)]; omega
      have ha17 : asc (X ++ (109 :: (105 :: (110 :: (40 :: (A ++ (44 :: (32 :: (B ++ [41]))))))))) := (by have q := insL_asc (p := X.length) (c := 109) ha16 (by decide); rw [eq17] at q; exact q)
      have hfin : (X ++ (109 :: (105 :: (110 :: (40 :: (A ++ (44 :: (32 :: (B ++ [41]))))))))) = X ++ sjt kd A B := by unfold sjt; simp [y3, y3a, y3b, y13, List.append_assoc]
      exact v_vret C hQ hr (Nat.le_of_ble_eq_true rfl) (Nat.le_of_ble_eq_true rfl) dX5_joinsText_117 ⟨_, _, hm17, (by rw [← hfin]; exact hl17), (by rw [← hfin]; exact hT17)⟩
  · have c2 := (nk_ge_f (a := kd) 2 (by decide) (by omega) (by decide)).mp c2
    have y18 : kd < 2 := by omega
    have y18a : ¬ kd = 2 := by omega
    have y18b : ¬ kd = 3 := by omega
    refine v_aload_n C 0 rfl dX5_joinsText_15 rfl ?_
    refine v_iload_n C 3 rfl dX5_joinsText_16 rfl ?_
    refine v_bipush (v := 32) C dX5_joinsText_17 (by decide) ?_
    refine v_callV (rest := []) C (c_X5_inserts l hl G m ad (upN ns 15 (ns 15 + 1)) (up2 na 14 f1) ia la h0 (X.length + A.length) 32 (T ++ [41]) h1 hm1 hT1 hl1 (by omega) (by omega) ha1 (by decide)) K_X5_157 hm1.1 rfl rfl (Nat.le_of_ble_eq_true rfl) ⟨Nat.le_of_ble_eq_true rfl, Nat.le_of_ble_eq_true rfl⟩ ⟨Nat.le_of_ble_eq_true rfl, Nat.le_of_ble_eq_true rfl⟩ dX5_joinsText_19 (fun _ h19 q19 => ?_)
    obtain ⟨f19, hm19, hT19⟩ := q19
    have eq19 : insL (T ++ [41]) (X.length + A.length) 32 = ((X ++ A) ++ (32 :: (B ++ [41]))) := insL_at (P := X ++ A) (Q := (B ++ [41])) (by rw [hTe]; simp [List.append_assoc]) (by rw [List.length_append])
    rw [eq19] at hT19
    have hm19 : MR G h0 h19 m ad (upN ns 15 (ns 15 + 2)) (up2 na 14 f19) ia la := by rw [upN_upN, up2_up2] at hm19; exact hm19
    have hl19 : ns 15 + 2 = ((X ++ A) ++ (32 :: (B ++ [41]))).length := by rw [← eq19, insL_len (by omega)]; omega
    have ha19 : asc ((X ++ A) ++ (32 :: (B ++ [41]))) := (by have q := insL_asc (p := (X.length + A.length)) (c := 32) ha1 (by decide); rw [eq19] at q; exact q)
    refine v_aload_n C 0 rfl dX5_joinsText_22 rfl ?_
    refine v_iload_n C 3 rfl dX5_joinsText_23 rfl ?_
    refine v_iload_n C 1 rfl dX5_joinsText_24 rfl ?_
    refine v_if_ne (tgt := 33) C dX5_joinsText_25 (by decide) (fun c20 => ?_) (fun c20 => ?_)
    · have c20 := (nk_ne (a := kd) 0 (by decide) (by omega) (by decide)).mp c20
      have y21 : ¬ kd = 0 := by omega
      have y21a : kd = 1 := by omega
      refine v_bipush (v := 45) C dX5_joinsText_33 (by decide) ?_
      refine v_callV (rest := []) C (c_X5_inserts l hl G m ad (upN ns 15 (ns 15 + 2)) (up2 na 14 f19) ia la h0 (X.length + A.length) 45 ((X ++ A) ++ (32 :: (B ++ [41]))) h19 hm19 hT19 hl19 (by omega) (by omega) ha19 (by decide)) K_X5_157 hm19.1 rfl rfl (Nat.le_of_ble_eq_true rfl) ⟨Nat.le_of_ble_eq_true rfl, Nat.le_of_ble_eq_true rfl⟩ ⟨Nat.le_of_ble_eq_true rfl, Nat.le_of_ble_eq_true rfl⟩ dX5_joinsText_35 (fun _ h22 q22 => ?_)
      obtain ⟨f22, hm22, hT22⟩ := q22
      have eq22 : insL ((X ++ A) ++ (32 :: (B ++ [41]))) (X.length + A.length) 45 = ((X ++ A) ++ (45 :: (32 :: (B ++ [41])))) := insL_at (P := X ++ A) (Q := (32 :: (B ++ [41]))) rfl (by rw [List.length_append])
      rw [eq22] at hT22
      have hm22 : MR G h0 h22 m ad (upN ns 15 (ns 15 + 3)) (up2 na 14 f22) ia la := by rw [upN_upN, up2_up2] at hm22; exact hm22
      have hl22 : ns 15 + 3 = ((X ++ A) ++ (45 :: (32 :: (B ++ [41])))).length := by rw [← eq22, insL_len (by omega)]; omega
      have ha22 : asc ((X ++ A) ++ (45 :: (32 :: (B ++ [41])))) := (by have q := insL_asc (p := (X.length + A.length)) (c := 45) ha19 (by decide); rw [eq22] at q; exact q)
      refine v_aload_n C 0 rfl dX5_joinsText_38 rfl ?_
      refine v_iload_n C 3 rfl dX5_joinsText_39 rfl ?_
      refine v_bipush (v := 32) C dX5_joinsText_40 (by decide) ?_
      refine v_callV (rest := []) C (c_X5_inserts l hl G m ad (upN ns 15 (ns 15 + 3)) (up2 na 14 f22) ia la h0 (X.length + A.length) 32 ((X ++ A) ++ (45 :: (32 :: (B ++ [41])))) h22 hm22 hT22 hl22 (by omega) (by omega) ha22 (by decide)) K_X5_157 hm22.1 rfl rfl (Nat.le_of_ble_eq_true rfl) ⟨Nat.le_of_ble_eq_true rfl, Nat.le_of_ble_eq_true rfl⟩ ⟨Nat.le_of_ble_eq_true rfl, Nat.le_of_ble_eq_true rfl⟩ dX5_joinsText_42 (fun _ h23 q23 => ?_)
      obtain ⟨f23, hm23, hT23⟩ := q23
      have eq23 : insL ((X ++ A) ++ (45 :: (32 :: (B ++ [41])))) (X.length + A.length) 32 = ((X ++ A) ++ (32 :: (45 :: (32 :: (B ++ [41]))))) := insL_at (P := X ++ A) (Q := (45 :: (32 :: (B ++ [41])))) rfl (by rw [List.length_append])
      rw [eq23] at hT23
      have hm23 : MR G h0 h23 m ad (upN ns 15 (ns 15 + 4)) (up2 na 14 f23) ia la := by rw [upN_upN, up2_up2] at hm23; exact hm23
      have hl23 : ns 15 + 4 = ((X ++ A) ++ (32 :: (45 :: (32 :: (B ++ [41]))))).length := by rw [← eq23, insL_len (by omega)]; omega
      have ha23 : asc ((X ++ A) ++ (32 :: (45 :: (32 :: (B ++ [41]))))) := (by have q := insL_asc (p := (X.length + A.length)) (c := 32) ha22 (by decide); rw [eq23] at q; exact q)
      refine v_aload_n C 0 rfl dX5_joinsText_45 rfl ?_
      refine v_iload_n C 2 rfl dX5_joinsText_46 rfl ?_
      refine v_bipush (v := 40) C dX5_joinsText_47 (by decide) ?_
      refine v_callV (rest := []) C (c_X5_inserts l hl G m ad (upN ns 15 (ns 15 + 4)) (up2 na 14 f23) ia la h0 X.length 40 ((X ++ A) ++ (32 :: (45 :: (32 :: (B ++ [41]))))) h23 hm23 hT23 hl23 (by omega) (by omega) ha23 (by decide)) K_X5_157 hm23.1 rfl rfl (Nat.le_of_ble_eq_true rfl) ⟨Nat.le_of_ble_eq_true rfl, Nat.le_of_ble_eq_true rfl⟩ ⟨Nat.le_of_ble_eq_true rfl, Nat.le_of_ble_eq_true rfl⟩ dX5_joinsText_49 (fun _ h24 q24 => ?_)
      obtain ⟨f24, hm24, hT24⟩ := q24
      have eq24 : insL ((X ++ A) ++ (32 :: (45 :: (32 :: (B ++ [41]))))) X.length 40 = (X ++ (40 :: (A ++ (32 :: (45 :: (32 :: (B ++ [41]))))))) := insL_at (P := X) (Q := (A ++ (32 :: (45 :: (32 :: (B ++ [41])))))) (List.append_assoc _ _ _) rfl
      rw [eq24] at hT24
      have hm24 : MR G h0 h24 m ad (upN ns 15 (ns 15 + 5)) (up2 na 14 f24) ia la := by rw [upN_upN, up2_up2] at hm24; exact hm24
      have hl24 : ns 15 + 5 = (X ++ (40 :: (A ++ (32 :: (45 :: (32 :: (B ++ [41]))))))).length := by rw [← eq24, insL_len (by omega)]; omega
      have ha24 : asc (X ++ (40 :: (A ++ (32 :: (45 :: (32 :: (B ++ [41]))))))) := (by have q := insL_asc (p := X.length) (c := 40) ha23 (by decide); rw [eq24] at q; exact q)
      refine v_goto (tgt := 117) C dX5_joinsText_52 (by decide) ?_
      have hfin : (X ++ (40 :: (A ++ (32 :: (45 :: (32 :: (B ++ [41]))))))) = X ++ sjt kd A B := by unfold sjt; simp [y18, y18a, y18b, y21, y21a, List.append_assoc]
      exact v_vret C hQ hr (Nat.le_of_ble_eq_true rfl) (Nat.le_of_ble_eq_true rfl) dX5_joinsText_117 ⟨_, _, hm24, (by rw [← hfin]; exact hl24), (by rw [← hfin]; exact hT24)⟩
    · have c20 := (nk_ne_f (a := kd) 0 (by decide) (by omega) (by decide)).mp c20
      have y25 : kd = 0 := by omega
      refine v_bipush (v := 43) C dX5_joinsText_28 (by decide) ?_
      refine v_goto (tgt := 35) C dX5_joinsText_30 (by decide) ?_
      refine v_callV (rest := []) C (c_X5_inserts l hl G m ad (upN ns 15 (ns 15 + 2)) (up2 na 14 f19) ia la h0 (X.length + A.length) 43 ((X ++ A) ++ (32 :: (B ++ [41]))) h19 hm19 hT19 hl19 (by omega) (by omega) ha19 (by decide)) K_X5_157 hm19.1 rfl rfl (Nat.le_of_ble_eq_true rfl) ⟨Nat.le_of_ble_eq_true rfl, Nat.le_of_ble_eq_true rfl⟩ ⟨Nat.le_of_ble_eq_true rfl, Nat.le_of_ble_eq_true rfl⟩ dX5_joinsText_35 (fun _ h26 q26 => ?_)
      obtain ⟨f26, hm26, hT26⟩ := q26
      have eq26 : insL ((X ++ A) ++ (32 :: (B ++ [41]))) (X.length + A.length) 43 = ((X ++ A) ++ (43 :: (32 :: (B ++ [41])))) := insL_at (P := X ++ A) (Q := (32 :: (B ++ [41]))) rfl (by rw [List.length_append])
      rw [eq26] at hT26
      have hm26 : MR G h0 h26 m ad (upN ns 15 (ns 15 + 3)) (up2 na 14 f26) ia la := by rw [upN_upN, up2_up2] at hm26; exact hm26
      have hl26 : ns 15 + 3 = ((X ++ A) ++ (43 :: (32 :: (B ++ [41])))).length := by rw [← eq26, insL_len (by omega)]; omega
      have ha26 : asc ((X ++ A) ++ (43 :: (32 :: (B ++ [41])))) := (by have q := insL_asc (p := (X.length + A.length)) (c := 43) ha19 (by decide); rw [eq26] at q; exact q)
      refine v_aload_n C 0 rfl dX5_joinsText_38 rfl ?_
      refine v_iload_n C 3 rfl dX5_joinsText_39 rfl ?_
      refine v_bipush (v := 32) C dX5_joinsText_40 (by decide) ?_
      refine v_callV (rest := []) C (c_X5_inserts l hl G m ad (upN ns 15 (ns 15 + 3)) (up2 na 14 f26) ia la h0 (X.length + A.length) 32 ((X ++ A) ++ (43 :: (32 :: (B ++ [41])))) h26 hm26 hT26 hl26 (by omega) (by omega) ha26 (by decide)) K_X5_157 hm26.1 rfl rfl (Nat.le_of_ble_eq_true rfl) ⟨Nat.le_of_ble_eq_true rfl, Nat.le_of_ble_eq_true rfl⟩ ⟨Nat.le_of_ble_eq_true rfl, Nat.le_of_ble_eq_true rfl⟩ dX5_joinsText_42 (fun _ h27 q27 => ?_)
      obtain ⟨f27, hm27, hT27⟩ := q27
      have eq27 : insL ((X ++ A) ++ (43 :: (32 :: (B ++ [41])))) (X.length + A.length) 32 = ((X ++ A) ++ (32 :: (43 :: (32 :: (B ++ [41]))))) := insL_at (P := X ++ A) (Q := (43 :: (32 :: (B ++ [41])))) rfl (by rw [List.length_append])
      rw [eq27] at hT27
      have hm27 : MR G h0 h27 m ad (upN ns 15 (ns 15 + 4)) (up2 na 14 f27) ia la := by rw [upN_upN, up2_up2] at hm27; exact hm27
      have hl27 : ns 15 + 4 = ((X ++ A) ++ (32 :: (43 :: (32 :: (B ++ [41]))))).length := by rw [← eq27, insL_len (by omega)]; omega
      have ha27 : asc ((X ++ A) ++ (32 :: (43 :: (32 :: (B ++ [41]))))) := (by have q := insL_asc (p := (X.length + A.length)) (c := 32) ha26 (by decide); rw [eq27] at q; exact q)
      refine v_aload_n C 0 rfl dX5_joinsText_45 rfl ?_
      refine v_iload_n C 2 rfl dX5_joinsText_46 rfl ?_
      refine v_bipush (v := 40) C dX5_joinsText_47 (by decide) ?_
      refine v_callV (rest := []) C (c_X5_inserts l hl G m ad (upN ns 15 (ns 15 + 4)) (up2 na 14 f27) ia la h0 X.length 40 ((X ++ A) ++ (32 :: (43 :: (32 :: (B ++ [41]))))) h27 hm27 hT27 hl27 (by omega) (by omega) ha27 (by decide)) K_X5_157 hm27.1 rfl rfl (Nat.le_of_ble_eq_true rfl) ⟨Nat.le_of_ble_eq_true rfl, Nat.le_of_ble_eq_true rfl⟩ ⟨Nat.le_of_ble_eq_true rfl, Nat.le_of_ble_eq_true rfl⟩ dX5_joinsText_49 (fun _ h28 q28 => ?_)
      obtain ⟨f28, hm28, hT28⟩ := q28
      have eq28 : insL ((X ++ A) ++ (32 :: (43 :: (32 :: (B ++ [41]))))) X.length 40 = (X ++ (40 :: (A ++ (32 :: (43 :: (32 :: (B ++ [41]))))))) := insL_at (P := X) (Q := (A ++ (32 :: (43 :: (32 :: (B ++ [41])))))) (List.append_assoc _ _ _) rfl
      rw [eq28] at hT28
      have hm28 : MR G h0 h28 m ad (upN ns 15 (ns 15 + 5)) (up2 na 14 f28) ia la := by rw [upN_upN, up2_up2] at hm28; exact hm28
      have hl28 : ns 15 + 5 = (X ++ (40 :: (A ++ (32 :: (43 :: (32 :: (B ++ [41]))))))).length := by rw [← eq28, insL_len (by omega)]; omega
      have ha28 : asc (X ++ (40 :: (A ++ (32 :: (43 :: (32 :: (B ++ [41]))))))) := (by have q := insL_asc (p := X.length) (c := 40) ha27 (by decide); rw [eq28] at q; exact q)
      refine v_goto (tgt := 117) C dX5_joinsText_52 (by decide) ?_
      have hfin : (X ++ (40 :: (A ++ (32 :: (43 :: (32 :: (B ++ [41]))))))) = X ++ sjt kd A B := by unfold sjt; simp [y18, y18a, y18b, y25, List.append_assoc]
      exact v_vret C hQ hr (Nat.le_of_ble_eq_true rfl) (Nat.le_of_ble_eq_true rfl) dX5_joinsText_117 ⟨_, _, hm28, (by rw [← hfin]; exact hl28), (by rw [← hfin]; exact hT28)⟩
set_option maxHeartbeats 4000000 in
set_option maxRecDepth 100000 in
theorem c_X5_insertsNumber (l : Launch) (hl : l.stackTraces = false) (G : zG) (m : Nat) (ad : Nat → Nat) (ns : Nat → Nat) (na : Nat → Nat → Nat) (ia : Nat → Nat → Int32) (la : Nat → Nat → Int64) (h0 : zH) (p v : Nat) (T : List Nat) (h : zH) (hm : MR G h0 h m ad ns na ia la) (hT : txA (na 14) T) (hlen : ns 15 = T.length) (hp : p ≤ T.length) (hlt : T.length < 990) (ha : asc T) (hv : v ≤ 1000000) : zMet eI l yX5_insertsNumber cX5_insertsNumber 5 (some .int) 13 0 0 G [.ref m, .int (nI p), .int (nI v)] h (fun r h2 => r = nI (p + sb_dg v) ∧ ∃ f, MR G h0 h2 m ad (upN ns 15 (ns 15 + sb_dg v)) (up2 na 14 f) ia la ∧ txA f (insS T p (dgl v))) := by
  refine con_of hl RX5 rfl (by decide +kernel) [(0, .ref m), (1, .int (nI p)), (2, .int (nI v))] rfl (Nat.le_of_ble_eq_true rfl) ?_
  intro zp ze zs zm zargs zbelow zmeth zc C hr hin Q hQ
  refine v_iload_n C 1 rfl dX5_insertsNumber_0 rfl ?_
  refine v_istore_n C [(3, .int (nI p)), (0, .ref m), (1, .int (nI p)), (2, .int (nI v))] rfl (by decide) dX5_insertsNumber_1 rfl ?_
  refine v_iload_n C 3 rfl dX5_insertsNumber_2 rfl ?_
  refine v_istore C [(4, .int (nI v)), (3, .int (nI p)), (0, .ref m), (1, .int (nI p)), (2, .int (nI v))] rfl (by decide) dX5_insertsNumber_3 ?_
  obtain ⟨v4, hv4⟩ : ∃ v4, v4 = v := ⟨_, rfl⟩
  refine v_lvp (lv2 := [(4, .int (nI (v / 10 ^ 0))), (3, .int (nI (p + 0))), (0, .ref m), (1, .int (nI p)), (2, .int (nI v))]) [0, 1, 2, 3, 4] (by rw [Nat.pow_zero, Nat.div_one]; rfl) ?_
  have L1 : ∀ (d : Nat) (k : Nat) (f : Nat → Nat) (h2 : zH), (k < sb_dg v) → (MR G h0 h2 m ad (upN ns 15 (ns 15 + k)) (up2 na 14 f) ia la) → (txA f (insS T p (dsuf v k))) → (sb_dg v < k + d) → V zp l ze (rmm 13 0 0) zs zm zargs zbelow zmeth zc G 5 Q h2 (0) (0) 5 [(3, .int (nI (p + k))), (4, .int (nI (v / 10 ^ k))), (2, .int (nI v)), (1, .int (nI p)), (0, .ref m)] [] := by
    intro d
    induction d with
    | zero =>
      intro k f h2 hk hm2 hf hd
      exact absurd hd (by omega)
    | succ d ih1 =>
      intro k f h2 hk hm2 hf hd
      refine v_aload_n C 4 rfl dX5_insertsNumber_5 rfl ?_
      refine v_iload_n C 3 rfl dX5_insertsNumber_6 rfl ?_
      refine v_bipush (v := 48) C dX5_insertsNumber_7 (by decide) ?_
      have hb0 : v / 10 ^ k ≤ 1000000 := Nat.le_trans (Nat.div_le_self _ _) hv
      have hm10 := Nat.mod_lt (v / 10 ^ k) (show 0 < 10 by decide)
      have hdv := sb_dg_in v
      have hd7 := dg_le7 hv
      have hq : v / 10 ^ k / 10 = v / 10 ^ (k + 1) := by rw [Nat.div_div_eq_div_mul, Nat.pow_succ]
      have hb1 : v / 10 ^ (k + 1) ≤ 1000000 := Nat.le_trans (Nat.div_le_self _ _) hv
      have hdp := dg_pos (k := k) hv (by omega)
      refine v_iload C 1 rfl dX5_insertsNumber_9 ?_
      refine v_bipush (v := 10) C dX5_insertsNumber_11 (by decide) ?_
      refine v_irem C dX5_insertsNumber_13 (by decide) (v_eqi (y := (nI (v / 10 ^ k % 10))) (no_rem (by omega)) ?_)
      refine v_iadd C dX5_insertsNumber_14 (v_eqi (nI_kad (v / 10 ^ k % 10) 48 (by decide)) ?_)
      refine v_i2c C dX5_insertsNumber_15 (i2c_asc (by omega)) ?_
      have hlk : (upN ns 15 (ns 15 + k)) 15 = (insS T p (dsuf v k)).length := by rw [insS_len hp, dsuf_len (by omega), upN_s, hlen]
      refine v_callV (rest := []) C (c_X5_inserts l hl G m ad (upN ns 15 (ns 15 + k)) (up2 na 14 f) ia la h0 p ((48 + (v / 10 ^ k % 10))) (insS T p (dsuf v k)) h2 hm2 hf hlk (by rw [← hlk, upN_s]; omega) (by rw [← hlk, upN_s]; omega) (insS_asc ha (dsuf_asc v k)) (by omega)) K_X5_157 hm2.1 rfl rfl (Nat.le_of_ble_eq_true rfl) ⟨Nat.le_of_ble_eq_true rfl, Nat.le_of_ble_eq_true rfl⟩ ⟨Nat.le_of_ble_eq_true rfl, Nat.le_of_ble_eq_true rfl⟩ dX5_insertsNumber_16 (fun _ h5 q5 => ?_)
      obtain ⟨f5, hm5, hTn⟩ := q5
      rw [insS_at hp, ← dsuf_s (by omega)] at hTn
      have hmn : MR G h0 h5 m ad (upN ns 15 (ns 15 + (k + 1))) (up2 na 14 f5) ia la := by rw [upN_upN, up2_up2] at hm5; exact hm5
      refine v_iload C 1 rfl dX5_insertsNumber_19 ?_
      refine v_bipush (v := 10) C dX5_insertsNumber_21 (by decide) ?_
      refine v_idiv C dX5_insertsNumber_23 (by decide) (v_eqi (y := (nI (v / 10 ^ (k + 1)))) ((no_div (by omega)).trans (congrArg nI hq)) ?_)
      refine v_istore C [(4, .int (nI (v / 10 ^ (k + 1)))), (3, .int (nI (p + k))), (2, .int (nI v)), (1, .int (nI p)), (0, .ref m)] rfl (by decide) dX5_insertsNumber_24 ?_
      refine v_iinc C 1 [(3, .int (nI ((p + k) + 1))), (4, .int (nI (v / 10 ^ (k + 1)))), (2, .int (nI v)), (1, .int (nI p)), (0, .ref m)] rfl (nI_inc (p + k) 1 (by decide)) rfl (by decide) dX5_insertsNumber_26 ?_
      refine v_iload C 1 rfl dX5_insertsNumber_29 ?_
      refine v_if_gt (tgt := 5) C dX5_insertsNumber_31 (by decide) (fun c8 => ?_) (fun c8 => ?_)
      · have c8 := (nk_gt (a := (v / 10 ^ (k + 1))) 0 (by decide) (by omega) (by decide)).mp c8
        have hk1 : k + 1 < sb_dg v := hdp.mp c8
        refine v_lvp [0, 1, 2, 3, 4] rfl ?_
        exact ih1 (k + 1) _ h5 (by omega) hmn hTn (by omega)
      · have c8 := (nk_gt_f (a := (v / 10 ^ (k + 1))) 0 (by decide) (by omega) (by decide)).mp c8
        have hk1 : ¬ k + 1 < sb_dg v := fun z => c8 (hdp.mpr z)
        refine v_iload_n C 0 rfl dX5_insertsNumber_34 rfl ?_
        exact v_iret C hQ hr rfl (Nat.le_of_ble_eq_true rfl) (Nat.le_of_ble_eq_true rfl) dX5_insertsNumber_35 (by have hz : k + 1 = sb_dg v := (by omega); rw [hz, dsuf_all] at hTn; rw [hz] at hmn; exact ⟨congrArg nI (show p + k + 1 = p + sb_dg v by omega), _, hmn, hTn⟩)
  refine v_lvp [1, 0, 4, 3, 2] rfl ?_
  have hmz : MR G h0 h m ad (upN ns 15 (ns 15 + 0)) (up2 na 14 (na 14)) ia la := by rw [up2_id, upN_id]; exact hm
  have hv0 : v / 10 ^ 0 = v := by rw [Nat.pow_zero, Nat.div_one]
  have hdv := sb_dg_in v
  exact L1 (sb_dg v + 1) 0 (na 14) h (by omega) hmz (by rw [dsuf_0, insS_0]; exact hT) (by omega)

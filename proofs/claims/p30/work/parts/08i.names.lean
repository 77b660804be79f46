theorem upd_nI {f : Nat → Int32} {i : Nat} {v : Int32} (hi : i < 2 ^ 31) : upd f (nI i).toNatClampNeg v = up2 f i v := by
  rw [nI_clamp hi]; rfl
theorem fN_up {F : Nat → Nat} {i v : Nat} : up2 (fN F) i (nI v) = fN (upN F i v) := by
  funext j
  show (if j = i then nI v else nI (F j)) = nI (if j = i then v else F j)
  split <;> rfl
set_option maxHeartbeats 4000000 in
set_option maxRecDepth 100000 in
theorem c_L_cell (l : Launch) (hl : l.stackTraces = false) (G : zG) (sb L k : Nat) (h : zH) (hL31 : L < 2 ^ 31) (hk : k < 2 ^ 30) : zMetP (zSc G sb L) eI l yL_cell cL_cell 2 (some .int) 12 0 0 G [.ref sb, .int (nI k)] h (fun (_ : Int32) h2 => h = h2) := by
  refine con_ofP hl RL rfl (by decide +kernel) [(0, .ref sb), (1, .int (nI k))] rfl (Nat.le_of_ble_eq_true rfl) ?_
  intro zp ze zs zm zargs zbelow zmeth zc C hr hin hSc Q hQ
  obtain ⟨xs, hX⟩ := hSc
  refine v_iload_n C 1 rfl dL_cell_0 rfl ?_
  refine v_aload_n C 0 rfl dL_cell_1 rfl ?_
  refine v_slen C hX dL_cell_2 ?_
  refine v_icmp_ge (tgt := 12) C dL_cell_3 (by decide) (fun c1 => ?_) (fun c1 => ?_)
  · have c1 := (nn_ge (a := k) (b := L) (by omega) (by omega)).mp c1
    refine v_ldc C KO_L_7 dL_cell_12 ?_
    refine v_iload_n C 1 rfl dL_cell_14 rfl ?_
    refine v_iconst (v := 1) C dL_cell_15 (by decide) ?_
    refine v_iadd C dL_cell_16 (v_eqi (nI_adk k 1 (by decide)) ?_)
    refine v_imul C dL_cell_17 (v_eqi (nI_kml (k + 1) 1000308233 (by decide)) ?_)
    refine v_ldc C KO_L_8 dL_cell_18 ?_
    refine v_iadd C dL_cell_20 (v_eqi (nI_adk (1000308233 * (k + 1)) 751363407 (by decide)) ?_)
    exact v_iret C hQ hr rfl (Nat.le_of_ble_eq_true rfl) (Nat.le_of_ble_eq_true rfl) dL_cell_21 rfl
  · have c1 := (nn_ge_f (a := k) (b := L) (by omega) (by omega)).mp c1
    refine v_aload_n C 0 rfl dL_cell_6 rfl ?_
    refine v_iload_n C 1 rfl dL_cell_7 rfl ?_
    refine v_sld C hX (vpin (show k < L by omega) (by omega)) dL_cell_8 (v_topi (fun i5 e5 => ?_))
    refine v_goto (tgt := 21) C dL_cell_9 (by decide) ?_
    exact v_iret C hQ hr rfl (Nat.le_of_ble_eq_true rfl) (Nat.le_of_ble_eq_true rfl) dL_cell_21 rfl
theorem EV.gk {s : ZS} {F : Nat → Nat} {A D : Nat → Int32} {T : Nat → List Tok} {lv : Nat → Nat} {M k : Nat} (he : EV s F A D T lv M) (hw : WFs s) (hk : k < M) : gtk (T k) ≤ oN s := by
  have z : ∀ n k, k < n → k < M → gtk (T k) ≤ oN s := by
    intro n
    induction n with
    | zero => intro k h; omega
    | succ n ih =>
      intro k hkn hk
      obtain ⟨-, -, -, hFE⟩ := he.2.2.1 k hk
      rcases hFE with ⟨f0, f1, fT, fl⟩ | ⟨f0, f1, fT, fl⟩ | ⟨f0, f1, fT, fl⟩ | ⟨f0, f1, f2, fT, fl⟩ | ⟨f0, f1, f2, fT, fl⟩ | ⟨f0, f1, fT, fl⟩ <;> rw [fT]
      · exact Nat.zero_le _
      · exact Nat.zero_le _
      · show max (if (6 : Nat) = 6 then F (4 * k + 1) + 1 else 0) 0 ≤ _
        rw [if_pos rfl]; omega
      · have a := ih (F (4 * k + 1)) (by omega) (by omega)
        have b := ih (F (4 * k + 2)) (by omega) (by omega)
        rw [gtk_app, gtk_app, show gtk [(F (4 * k), 0)] = 0 by simp only [gtk]; rw [if_neg (by show ¬ F (4 * k) = 6; omega)]; rfl]; omega
      · have a := ih (F (4 * k + 1)) (by omega) (by omega)
        rw [gtk_app, show gtk [(7, F (4 * k + 2))] = 0 from rfl]; omega
      · have a := ih (F (4 * k + 1)) (by omega) (by omega)
        rw [gtk_app, show gtk [(8, 0)] = 0 from rfl]; omega
  exact z (k + 1) k (by omega) hk
set_option maxHeartbeats 4000000 in
set_option maxRecDepth 100000 in
theorem c_L_names (l : Launch) (hl : l.stackTraces = false) (G : zG) (fa k M : Nat) (z2 : Int32) (F : Nat → Nat) (A D : Nat → Int32) (T : Nat → List Tok) (lv : Nat → Nat) (s : ZS) (h : zH) (hw : WFs s) (he : EV s F A D T lv M) (hF : iC G h fa 60 (fN F)) (hk : k < M) : zMet eI l yL_names cL_names 8 (some .int) 12 1 32 G [.int (nI k), .ref fa, .int z2] h (fun r h2 => r = gI (gtk (T k)) ∧ ∀ b e, h b = some e → h2 b = some e) := by
  refine con_of hl RL rfl (by decide +kernel) [(0, .int (nI k)), (1, .ref fa), (2, .int z2)] rfl (Nat.le_of_ble_eq_true rfl) ?_
  intro zp ze zs zm zargs zbelow zmeth zc C hr hin Q hQ
  refine v_iconst (v := (-1)) C dL_names_0 (by decide) ?_
  refine v_istore_n C [(3, .int (-1)), (0, .int (nI k)), (1, .ref fa), (2, .int z2)] rfl (by decide) dL_names_1 rfl ?_
  refine v_bipush (v := 32) C dL_names_2 (by decide) ?_
  refine v_newa (atype := .int) (N := 32) (z := (32, .inl (fun _ => 0))) C 0 rfl rfl rfl AY_int (fun cA => rfl) (by decide) (by decide) (by decide) (Nat.le_of_ble_eq_true rfl) (Nat.le_of_ble_eq_true rfl) dL_names_4 (fun q1 gq1 nq1 => v_nw (fun h1 eh1 => ?_))
  have k2 : h1 q1 = some (.inl (gc G 0, 32, .inl (fun _ => 0))) := by rw [eh1]; exact zup_self _ _ _
  refine v_astore C [(4, .ref q1), (3, .int (-1)), (0, .int (nI k)), (1, .ref fa), (2, .int z2)] rfl (by decide) dL_names_6 ?_
  refine v_iconst (v := 1) C dL_names_8 (by decide) ?_
  refine v_istore C [(5, .int 1), (4, .ref q1), (3, .int (-1)), (0, .int (nI k)), (1, .ref fa), (2, .int z2)] rfl (by decide) dL_names_9 ?_
  refine v_aload C 1 rfl dL_names_11 ?_
  refine v_iconst (v := 0) C dL_names_13 (by decide) ?_
  refine v_iload_n C 3 rfl dL_names_14 rfl ?_
  refine v_iast C k2 (show vp_in (0 : Int32) 32 from vpin (n := 0) (N := 32) (by decide) (by decide)) dL_names_15 (v_nw (fun h3 eh3 => ?_))
  have hA0 : iC G h3 q1 32 (upd (fun _ => 0) (0 : Int32).toNatClampNeg (nI k)) := by rw [eh3]; exact zup_self _ _ _
  have hN6 := he.2.1
  have hM := he.1
  have N : ∀ (n j c m : Nat) (o2 : Nat → Int32) (h2 : zH), c < M → lv c ≤ n → j + n ≤ 31 → m ≤ 10 → o2 j = nI c → (∀ b e, h b = some e → h2 b = some e) → iC G h2 q1 32 o2 → (∀ (o3 : Nat → Int32) (h3 : zH), (∀ i, i < j → o3 i = o2 i) → (∀ b e, h b = some e → h3 b = some e) → iC G h3 q1 32 o3 → V zp l ze (rmm 12 1 32) zs zm zargs zbelow zmeth zc G 8 Q h3 (0 + 1) (0 + 32) 16 [(5, .int (nI (j))), (3, .int (gI (max m (gtk (T c))))), (4, .ref q1), (0, .int (nI k)), (1, .ref fa), (2, .int z2)] []) → V zp l ze (rmm 12 1 32) zs zm zargs zbelow zmeth zc G 8 Q h2 (0 + 1) (0 + 32) 16 [(5, .int (nI (j + 1))), (3, .int (gI m)), (4, .ref q1), (0, .int (nI k)), (1, .ref fa), (2, .int z2)] [] := by
    intro n
    induction n with
    | zero =>
      intro j c m o2 h2 hcM hvn
      exact absurd (he.lv1 hcM) (by omega)
    | succ n ihn =>
      intro j c m o2 h2 hcM hvn hj31 hm10 hoj hK2 hA2 cont
      have hF2 : iC G h2 fa 60 (fN F) := hK2 fa _ hF
      obtain ⟨l1, l6, l3, hFE⟩ := he.2.2.1 c hcM
      rcases hFE with ⟨f0, f1, fT, fl⟩ | ⟨f0, f1, fT, fl⟩ | ⟨f0, f1, fT, fl⟩ | ⟨f0, f1, f2, fT, fl⟩ | ⟨f0, f1, f2, fT, fl⟩ | ⟨f0, f1, fT, fl⟩
      · refine v_iload C 0 rfl dL_names_16 ?_
        refine v_if_le (tgt := 125) C dL_names_18 (by decide) (fun c4 => absurd ((nk_le (a := j + 1) 0 (by decide) (by omega) (by decide)).mp c4) (by omega)) (fun c4 => ?_)
        have c4 := (nk_le_f (a := (j + 1)) 0 (by decide) (by omega) (by decide)).mp c4
        refine v_iinc C 0 [(5, .int (nI j)), (3, .int (gI m)), (4, .ref q1), (0, .int (nI k)), (1, .ref fa), (2, .int z2)] rfl ((nI_dec (p := j + 1) (by omega)).trans (congrArg nI (show j + 1 - 1 = j by omega))) rfl (by decide) dL_names_21 ?_
        refine v_aload C 2 rfl dL_names_24 ?_
        refine v_iload C 0 rfl dL_names_26 ?_
        refine v_iald C hA2 (vpin (show j < 32 by omega) (by decide)) dL_names_28 (v_eqi (y := (nI c)) ((congrArg o2 (nI_clamp (show j < 2 ^ 31 by omega))).trans hoj) ?_)
        refine v_istore C [(6, .int (nI c)), (5, .int (nI j)), (3, .int (gI m)), (4, .ref q1), (0, .int (nI k)), (1, .ref fa), (2, .int z2)] rfl (by decide) dL_names_29 ?_
        refine v_aload_n C 5 rfl dL_names_31 rfl ?_
        refine v_iconst (v := 4) C dL_names_32 (by decide) ?_
        refine v_iload C 0 rfl dL_names_33 ?_
        refine v_imul C dL_names_35 (v_eqi (nI_kml c 4 (by decide)) ?_)
        refine v_iald C hF2 (vpin (show 4 * c < 60 by omega) (by decide)) dL_names_36 (v_eqi (y := nI 4) ((congrArg (fun j => nI (F j)) (nI_clamp (show 4 * c < 2 ^ 31 by omega))).trans (congrArg nI f0)) ?_)
        refine v_istore C [(7, .int (nI 4)), (6, .int (nI c)), (5, .int (nI j)), (3, .int (gI m)), (4, .ref q1), (0, .int (nI k)), (1, .ref fa), (2, .int z2)] rfl (by decide) dL_names_37 ?_
        refine v_iload C 0 rfl dL_names_39 ?_
        refine v_bipush (v := 6) C dL_names_41 (by decide) ?_
        refine v_icmp_ne (tgt := 71) C dL_names_43 (by decide) (fun c7 => ?_) (fun c7 => absurd c7 (by decide))
        refine v_iload C 0 rfl dL_names_71 ?_
        refine v_iconst (v := 4) C dL_names_73 (by decide) ?_
        refine v_icmp_lt (tgt := 84) C dL_names_74 (by decide) (fun c8 => absurd c8 (by decide)) (fun c8 => ?_)
        refine v_iload C 0 rfl dL_names_77 ?_
        refine v_bipush (v := 6) C dL_names_79 (by decide) ?_
        refine v_icmp_le (tgt := 100) C dL_names_81 (by decide) (fun c9 => ?_) (fun c9 => absurd c9 (by decide))
        refine v_iload C 0 rfl dL_names_100 ?_
        refine v_iconst (v := 4) C dL_names_102 (by decide) ?_
        refine v_icmp_ge (tgt := 122) C dL_names_103 (by decide) (fun c10 => ?_) (fun c10 => absurd c10 (by decide))
        refine v_goto (tgt := 16) C dL_names_122 (by decide) ?_
        refine v_lvp [2, 3, 4, 5, 6, 7] rfl ?_
        have hg0 : max m (gtk (T c)) = m := by rw [fT]; exact Nat.max_eq_left (Nat.zero_le _)
        rw [← hg0]
        exact cont o2 h2 (fun i hi => rfl) hK2 hA2
      · refine v_iload C 0 rfl dL_names_16 ?_
        refine v_if_le (tgt := 125) C dL_names_18 (by decide) (fun c11 => absurd ((nk_le (a := j + 1) 0 (by decide) (by omega) (by decide)).mp c11) (by omega)) (fun c11 => ?_)
        have c11 := (nk_le_f (a := (j + 1)) 0 (by decide) (by omega) (by decide)).mp c11
        refine v_iinc C 0 [(5, .int (nI j)), (3, .int (gI m)), (4, .ref q1), (0, .int (nI k)), (1, .ref fa), (2, .int z2)] rfl ((nI_dec (p := j + 1) (by omega)).trans (congrArg nI (show j + 1 - 1 = j by omega))) rfl (by decide) dL_names_21 ?_
        refine v_aload C 2 rfl dL_names_24 ?_
        refine v_iload C 0 rfl dL_names_26 ?_
        refine v_iald C hA2 (vpin (show j < 32 by omega) (by decide)) dL_names_28 (v_eqi (y := (nI c)) ((congrArg o2 (nI_clamp (show j < 2 ^ 31 by omega))).trans hoj) ?_)
        refine v_istore C [(6, .int (nI c)), (5, .int (nI j)), (3, .int (gI m)), (4, .ref q1), (0, .int (nI k)), (1, .ref fa), (2, .int z2)] rfl (by decide) dL_names_29 ?_
        refine v_aload_n C 5 rfl dL_names_31 rfl ?_
        refine v_iconst (v := 4) C dL_names_32 (by decide) ?_
        refine v_iload C 0 rfl dL_names_33 ?_
        refine v_imul C dL_names_35 (v_eqi (nI_kml c 4 (by decide)) ?_)
        refine v_iald C hF2 (vpin (show 4 * c < 60 by omega) (by decide)) dL_names_36 (v_eqi (y := nI 5) ((congrArg (fun j => nI (F j)) (nI_clamp (show 4 * c < 2 ^ 31 by omega))).trans (congrArg nI f0)) ?_)
        refine v_istore C [(7, .int (nI 5)), (6, .int (nI c)), (5, .int (nI j)), (3, .int (gI m)), (4, .ref q1), (0, .int (nI k)), (1, .ref fa), (2, .int z2)] rfl (by decide) dL_names_37 ?_
        refine v_iload C 0 rfl dL_names_39 ?_
        refine v_bipush (v := 6) C dL_names_41 (by decide) ?_
        refine v_icmp_ne (tgt := 71) C dL_names_43 (by decide) (fun c14 => ?_) (fun c14 => absurd c14 (by decide))
        refine v_iload C 0 rfl dL_names_71 ?_
        refine v_iconst (v := 4) C dL_names_73 (by decide) ?_
        refine v_icmp_lt (tgt := 84) C dL_names_74 (by decide) (fun c15 => absurd c15 (by decide)) (fun c15 => ?_)
        refine v_iload C 0 rfl dL_names_77 ?_
        refine v_bipush (v := 6) C dL_names_79 (by decide) ?_
        refine v_icmp_le (tgt := 100) C dL_names_81 (by decide) (fun c16 => ?_) (fun c16 => absurd c16 (by decide))
        refine v_iload C 0 rfl dL_names_100 ?_
        refine v_iconst (v := 4) C dL_names_102 (by decide) ?_
        refine v_icmp_ge (tgt := 122) C dL_names_103 (by decide) (fun c17 => ?_) (fun c17 => absurd c17 (by decide))
        refine v_goto (tgt := 16) C dL_names_122 (by decide) ?_
        refine v_lvp [2, 3, 4, 5, 6, 7] rfl ?_
        have hg0 : max m (gtk (T c)) = m := by rw [fT]; exact Nat.max_eq_left (Nat.zero_le _)
        rw [← hg0]
        exact cont o2 h2 (fun i hi => rfl) hK2 hA2
      · refine v_iload C 0 rfl dL_names_16 ?_
        refine v_if_le (tgt := 125) C dL_names_18 (by decide) (fun c18 => absurd ((nk_le (a := j + 1) 0 (by decide) (by omega) (by decide)).mp c18) (by omega)) (fun c18 => ?_)
        have c18 := (nk_le_f (a := (j + 1)) 0 (by decide) (by omega) (by decide)).mp c18
        refine v_iinc C 0 [(5, .int (nI j)), (3, .int (gI m)), (4, .ref q1), (0, .int (nI k)), (1, .ref fa), (2, .int z2)] rfl ((nI_dec (p := j + 1) (by omega)).trans (congrArg nI (show j + 1 - 1 = j by omega))) rfl (by decide) dL_names_21 ?_
        refine v_aload C 2 rfl dL_names_24 ?_
        refine v_iload C 0 rfl dL_names_26 ?_
        refine v_iald C hA2 (vpin (show j < 32 by omega) (by decide)) dL_names_28 (v_eqi (y := (nI c)) ((congrArg o2 (nI_clamp (show j < 2 ^ 31 by omega))).trans hoj) ?_)
        refine v_istore C [(6, .int (nI c)), (5, .int (nI j)), (3, .int (gI m)), (4, .ref q1), (0, .int (nI k)), (1, .ref fa), (2, .int z2)] rfl (by decide) dL_names_29 ?_
        refine v_aload_n C 5 rfl dL_names_31 rfl ?_
        refine v_iconst (v := 4) C dL_names_32 (by decide) ?_
        refine v_iload C 0 rfl dL_names_33 ?_
        refine v_imul C dL_names_35 (v_eqi (nI_kml c 4 (by decide)) ?_)
        refine v_iald C hF2 (vpin (show 4 * c < 60 by omega) (by decide)) dL_names_36 (v_eqi (y := nI 6) ((congrArg (fun j => nI (F j)) (nI_clamp (show 4 * c < 2 ^ 31 by omega))).trans (congrArg nI f0)) ?_)
        refine v_istore C [(7, .int (nI 6)), (6, .int (nI c)), (5, .int (nI j)), (3, .int (gI m)), (4, .ref q1), (0, .int (nI k)), (1, .ref fa), (2, .int z2)] rfl (by decide) dL_names_37 ?_
        refine v_iload C 0 rfl dL_names_39 ?_
        refine v_bipush (v := 6) C dL_names_41 (by decide) ?_
        refine v_icmp_ne (tgt := 71) C dL_names_43 (by decide) (fun c21 => absurd c21 (by decide)) (fun c21 => ?_)
        refine v_aload_n C 6 rfl dL_names_46 rfl ?_
        refine v_iconst (v := 4) C dL_names_47 (by decide) ?_
        refine v_iload C 1 rfl dL_names_48 ?_
        refine v_imul C dL_names_50 (v_eqi (nI_kml c 4 (by decide)) ?_)
        refine v_iconst (v := 1) C dL_names_51 (by decide) ?_
        refine v_iadd C dL_names_52 (v_eqi (nI_adk (4 * c) 1 (by decide)) ?_)
        refine v_iald C hF2 (vpin (show 4 * c + 1 < 60 by omega) (by decide)) dL_names_53 (v_eqi (y := nI (F (4 * c + 1))) (congrArg (fun j => nI (F j)) (nI_clamp (show 4 * c + 1 < 2 ^ 31 by omega))) ?_)
        refine v_iload_n C 3 rfl dL_names_54 rfl ?_
        refine v_icmp_le (tgt := 69) C dL_names_55 (by decide) (fun c24 => ?_) (fun c24 => ?_)
        · have c24 := (le_gI (n := F (4 * c + 1)) (g := m) (by omega) (by omega)).mp c24
          refine v_iload_n C 3 rfl dL_names_69 rfl ?_
          have hmx : max m (gtk (T c)) = m := by rw [fT]; show max m (max (if (6 : Nat) = 6 then F (4 * c + 1) + 1 else 0) 0) = m; rw [if_pos rfl]; omega
          refine v_eqi (y := gI (max m (gtk (T c)))) (congrArg gI hmx.symm) ?_
          refine v_istore_n C [(3, .int (gI (max m (gtk (T c))))), (7, .int (nI 6)), (6, .int (nI c)), (5, .int (nI j)), (4, .ref q1), (0, .int (nI k)), (1, .ref fa), (2, .int z2)] rfl (by decide) dL_names_70 rfl ?_
          refine v_iload C 1 rfl dL_names_71 ?_
          refine v_iconst (v := 4) C dL_names_73 (by decide) ?_
          refine v_icmp_lt (tgt := 84) C dL_names_74 (by decide) (fun c25 => absurd c25 (by decide)) (fun c25 => ?_)
          refine v_iload C 1 rfl dL_names_77 ?_
          refine v_bipush (v := 6) C dL_names_79 (by decide) ?_
          refine v_icmp_le (tgt := 100) C dL_names_81 (by decide) (fun c26 => ?_) (fun c26 => absurd c26 (by decide))
          refine v_iload C 1 rfl dL_names_100 ?_
          refine v_iconst (v := 4) C dL_names_102 (by decide) ?_
          refine v_icmp_ge (tgt := 122) C dL_names_103 (by decide) (fun c27 => ?_) (fun c27 => absurd c27 (by decide))
          refine v_goto (tgt := 16) C dL_names_122 (by decide) ?_
          refine v_lvp [3, 0, 4, 5, 6, 7] rfl ?_
          exact cont o2 h2 (fun i hi => rfl) hK2 hA2
        · have c24 := (not_congr (le_gI (n := F (4 * c + 1)) (g := m) (by omega) (by omega))).mp c24
          refine v_aload_n C 6 rfl dL_names_58 rfl ?_
          refine v_iconst (v := 4) C dL_names_59 (by decide) ?_
          refine v_iload C 1 rfl dL_names_60 ?_
          refine v_imul C dL_names_62 (v_eqi (nI_kml c 4 (by decide)) ?_)
          refine v_iconst (v := 1) C dL_names_63 (by decide) ?_
          refine v_iadd C dL_names_64 (v_eqi (nI_adk (4 * c) 1 (by decide)) ?_)
          refine v_iald C hF2 (vpin (show 4 * c + 1 < 60 by omega) (by decide)) dL_names_65 (v_eqi (y := nI (F (4 * c + 1))) (congrArg (fun j => nI (F j)) (nI_clamp (show 4 * c + 1 < 2 ^ 31 by omega))) ?_)
          refine v_goto (tgt := 70) C dL_names_66 (by decide) ?_
          have hmx : max m (gtk (T c)) = F (4 * c + 1) + 1 := by rw [fT]; show max m (max (if (6 : Nat) = 6 then F (4 * c + 1) + 1 else 0) 0) = _; rw [if_pos rfl]; omega
          refine v_eqi (y := gI (max m (gtk (T c)))) ((gI_s _).trans (congrArg gI hmx.symm)) ?_
          refine v_istore_n C [(3, .int (gI (max m (gtk (T c))))), (7, .int (nI 6)), (6, .int (nI c)), (5, .int (nI j)), (4, .ref q1), (0, .int (nI k)), (1, .ref fa), (2, .int z2)] rfl (by decide) dL_names_70 rfl ?_
          refine v_iload C 1 rfl dL_names_71 ?_
          refine v_iconst (v := 4) C dL_names_73 (by decide) ?_
          refine v_icmp_lt (tgt := 84) C dL_names_74 (by decide) (fun c30 => absurd c30 (by decide)) (fun c30 => ?_)
          refine v_iload C 1 rfl dL_names_77 ?_
          refine v_bipush (v := 6) C dL_names_79 (by decide) ?_
          refine v_icmp_le (tgt := 100) C dL_names_81 (by decide) (fun c31 => ?_) (fun c31 => absurd c31 (by decide))
          refine v_iload C 1 rfl dL_names_100 ?_
          refine v_iconst (v := 4) C dL_names_102 (by decide) ?_
          refine v_icmp_ge (tgt := 122) C dL_names_103 (by decide) (fun c32 => ?_) (fun c32 => absurd c32 (by decide))
          refine v_goto (tgt := 16) C dL_names_122 (by decide) ?_
          refine v_lvp [3, 0, 4, 5, 6, 7] rfl ?_
          exact cont o2 h2 (fun i hi => rfl) hK2 hA2
      · refine v_iload C 0 rfl dL_names_16 ?_
        refine v_if_le (tgt := 125) C dL_names_18 (by decide) (fun c33 => absurd ((nk_le (a := j + 1) 0 (by decide) (by omega) (by decide)).mp c33) (by omega)) (fun c33 => ?_)
        have c33 := (nk_le_f (a := (j + 1)) 0 (by decide) (by omega) (by decide)).mp c33
        refine v_iinc C 0 [(5, .int (nI j)), (3, .int (gI m)), (4, .ref q1), (0, .int (nI k)), (1, .ref fa), (2, .int z2)] rfl ((nI_dec (p := j + 1) (by omega)).trans (congrArg nI (show j + 1 - 1 = j by omega))) rfl (by decide) dL_names_21 ?_
        refine v_aload C 2 rfl dL_names_24 ?_
        refine v_iload C 0 rfl dL_names_26 ?_
        refine v_iald C hA2 (vpin (show j < 32 by omega) (by decide)) dL_names_28 (v_eqi (y := (nI c)) ((congrArg o2 (nI_clamp (show j < 2 ^ 31 by omega))).trans hoj) ?_)
        refine v_istore C [(6, .int (nI c)), (5, .int (nI j)), (3, .int (gI m)), (4, .ref q1), (0, .int (nI k)), (1, .ref fa), (2, .int z2)] rfl (by decide) dL_names_29 ?_
        refine v_aload_n C 5 rfl dL_names_31 rfl ?_
        refine v_iconst (v := 4) C dL_names_32 (by decide) ?_
        refine v_iload C 0 rfl dL_names_33 ?_
        refine v_imul C dL_names_35 (v_eqi (nI_kml c 4 (by decide)) ?_)
        refine v_iald C hF2 (vpin (show 4 * c < 60 by omega) (by decide)) dL_names_36 (v_eqi (y := nI (F (4 * c))) ((congrArg (fun j => nI (F j)) (nI_clamp (show 4 * c < 2 ^ 31 by omega))).trans (congrArg nI rfl)) ?_)
        refine v_istore C [(7, .int (nI (F (4 * c)))), (6, .int (nI c)), (5, .int (nI j)), (3, .int (gI m)), (4, .ref q1), (0, .int (nI k)), (1, .ref fa), (2, .int z2)] rfl (by decide) dL_names_37 ?_
        refine v_iload C 0 rfl dL_names_39 ?_
        refine v_bipush (v := 6) C dL_names_41 (by decide) ?_
        refine v_icmp_ne (tgt := 71) C dL_names_43 (by decide) (fun c36 => ?_) (fun c36 => absurd ((nk_ne_f (a := F (4 * c)) 6 (by decide) (by omega) (by decide)).mp c36) (by omega))
        have c36 := (nk_ne (a := (F (4 * c))) 6 (by decide) (by omega) (by decide)).mp c36
        refine v_iload C 0 rfl dL_names_71 ?_
        refine v_iconst (v := 4) C dL_names_73 (by decide) ?_
        refine v_icmp_lt (tgt := 84) C dL_names_74 (by decide) (fun c37 => ?_) (fun c37 => absurd ((nk_lt_f (a := F (4 * c)) 4 (by decide) (by omega) (by decide)).mp c37) (by omega))
        have c37 := (nk_lt (a := (F (4 * c))) 4 (by decide) (by omega) (by decide)).mp c37
        refine v_aload C 4 rfl dL_names_84 ?_
        refine v_iload C 2 rfl dL_names_86 ?_
        refine v_aload_n C 6 rfl dL_names_88 rfl ?_
        refine v_iconst (v := 4) C dL_names_89 (by decide) ?_
        refine v_iload C 1 rfl dL_names_90 ?_
        refine v_imul C dL_names_92 (v_eqi (nI_kml c 4 (by decide)) ?_)
        refine v_iconst (v := 1) C dL_names_93 (by decide) ?_
        refine v_iadd C dL_names_94 (v_eqi (nI_adk (4 * c) 1 (by decide)) ?_)
        refine v_iald C hF2 (vpin (show 4 * c + 1 < 60 by omega) (by decide)) dL_names_95 (v_eqi (y := nI (F (4 * c + 1))) (congrArg (fun j => nI (F j)) (nI_clamp (show 4 * c + 1 < 2 ^ 31 by omega))) ?_)
        refine v_iast C hA2 (vpin (show j < 32 by omega) (by decide)) dL_names_96 (v_nw (fun h40 eh40 => ?_))
        rw [upd_nI (show j < 2 ^ 31 by omega)] at eh40
        have hA40 : iC G h40 q1 32 (up2 o2 (j) (nI (F (4 * c + 1)))) := by rw [eh40]; exact zup_self _ _ _
        have hK40 : ∀ b e, h b = some e → h40 b = some e := fun b e hb => by rw [eh40, zup_ne _ _ (zne_new nq1 hb)]; exact hK2 b e hb
        have hF40 : iC G h40 fa 60 (fN F) := hK40 fa _ hF
        refine v_iinc C 2 [(5, .int (nI (j + 1))), (7, .int (nI (F (4 * c)))), (6, .int (nI c)), (3, .int (gI m)), (4, .ref q1), (0, .int (nI k)), (1, .ref fa), (2, .int z2)] rfl (nI_inc j 1 (by decide)) rfl (by decide) dL_names_97 ?_
        refine v_iload C 1 rfl dL_names_100 ?_
        refine v_iconst (v := 4) C dL_names_102 (by decide) ?_
        refine v_icmp_ge (tgt := 122) C dL_names_103 (by decide) (fun c42 => absurd ((nk_ge (a := F (4 * c)) 4 (by decide) (by omega) (by decide)).mp c42) (by omega)) (fun c42 => ?_)
        have c42 := (nk_ge_f (a := (F (4 * c))) 4 (by decide) (by omega) (by decide)).mp c42
        refine v_aload C 4 rfl dL_names_106 ?_
        refine v_iload C 0 rfl dL_names_108 ?_
        refine v_aload_n C 6 rfl dL_names_110 rfl ?_
        refine v_iconst (v := 4) C dL_names_111 (by decide) ?_
        refine v_iload C 2 rfl dL_names_112 ?_
        refine v_imul C dL_names_114 (v_eqi (nI_kml c 4 (by decide)) ?_)
        refine v_iconst (v := 2) C dL_names_115 (by decide) ?_
        refine v_iadd C dL_names_116 (v_eqi (nI_adk (4 * c) 2 (by decide)) ?_)
        refine v_iald C hF40 (vpin (show 4 * c + 2 < 60 by omega) (by decide)) dL_names_117 (v_eqi (y := nI (F (4 * c + 2))) (congrArg (fun j => nI (F j)) (nI_clamp (show 4 * c + 2 < 2 ^ 31 by omega))) ?_)
        refine v_iast C hA40 (vpin (show j + 1 < 32 by omega) (by decide)) dL_names_118 (v_nw (fun h45 eh45 => ?_))
        rw [upd_nI (show j + 1 < 2 ^ 31 by omega)] at eh45
        have hA45 : iC G h45 q1 32 (up2 (up2 o2 (j) (nI (F (4 * c + 1)))) (j + 1) (nI (F (4 * c + 2)))) := by rw [eh45]; exact zup_self _ _ _
        have hK45 : ∀ b e, h b = some e → h45 b = some e := fun b e hb => by rw [eh45, zup_ne _ _ (zne_new nq1 hb)]; exact hK40 b e hb
        have hF45 : iC G h45 fa 60 (fN F) := hK45 fa _ hF
        refine v_iinc C 0 [(5, .int (nI ((j + 1) + 1))), (7, .int (nI (F (4 * c)))), (6, .int (nI c)), (3, .int (gI m)), (4, .ref q1), (0, .int (nI k)), (1, .ref fa), (2, .int z2)] rfl (nI_inc (j + 1) 1 (by decide)) rfl (by decide) dL_names_119 ?_
        refine v_goto (tgt := 16) C dL_names_122 (by decide) ?_
        refine v_lvp [0, 3, 4, 5, 6, 7] rfl ?_
        refine ihn (j + 1) (F (4 * c + 2)) m (up2 (up2 o2 (j) (nI (F (4 * c + 1)))) (j + 1) (nI (F (4 * c + 2)))) h45 (by omega) (by omega) (by omega) hm10 (up2_s) hK45 hA45 (fun o3 h3 ho3 hK3 hA3 => ?_)
        refine ihn j (F (4 * c + 1)) (max m (gtk (T (F (4 * c + 2))))) o3 h3 (by omega) (by omega) (by omega) (by have := he.gk hw (k := F (4 * c + 2)) (by omega); omega) ((ho3 j (by omega)).trans ((up2_n (by omega)).trans up2_s)) hK3 hA3 (fun o4 h4 ho4 hK4 hA4 => ?_)
        have hg0 : max (max m (gtk (T (F (4 * c + 2))))) (gtk (T (F (4 * c + 1)))) = max m (gtk (T c)) := by rw [fT, gtk_app, gtk_app, show gtk [(F (4 * c), 0)] = 0 by simp only [gtk]; rw [if_neg (by show ¬ F (4 * c) = 6; omega)]; rfl]; omega
        rw [hg0]
        exact cont o4 h4 (fun i hi => (ho4 i hi).trans ((ho3 i (by omega)).trans ((up2_n (by omega)).trans (up2_n (by omega))))) hK4 hA4
      · refine v_iload C 0 rfl dL_names_16 ?_
        refine v_if_le (tgt := 125) C dL_names_18 (by decide) (fun c47 => absurd ((nk_le (a := j + 1) 0 (by decide) (by omega) (by decide)).mp c47) (by omega)) (fun c47 => ?_)
        have c47 := (nk_le_f (a := (j + 1)) 0 (by decide) (by omega) (by decide)).mp c47
        refine v_iinc C 0 [(5, .int (nI j)), (3, .int (gI m)), (4, .ref q1), (0, .int (nI k)), (1, .ref fa), (2, .int z2)] rfl ((nI_dec (p := j + 1) (by omega)).trans (congrArg nI (show j + 1 - 1 = j by omega))) rfl (by decide) dL_names_21 ?_
        refine v_aload C 2 rfl dL_names_24 ?_
        refine v_iload C 0 rfl dL_names_26 ?_
        refine v_iald C hA2 (vpin (show j < 32 by omega) (by decide)) dL_names_28 (v_eqi (y := (nI c)) ((congrArg o2 (nI_clamp (show j < 2 ^ 31 by omega))).trans hoj) ?_)
        refine v_istore C [(6, .int (nI c)), (5, .int (nI j)), (3, .int (gI m)), (4, .ref q1), (0, .int (nI k)), (1, .ref fa), (2, .int z2)] rfl (by decide) dL_names_29 ?_
        refine v_aload_n C 5 rfl dL_names_31 rfl ?_
        refine v_iconst (v := 4) C dL_names_32 (by decide) ?_
        refine v_iload C 0 rfl dL_names_33 ?_
        refine v_imul C dL_names_35 (v_eqi (nI_kml c 4 (by decide)) ?_)
        refine v_iald C hF2 (vpin (show 4 * c < 60 by omega) (by decide)) dL_names_36 (v_eqi (y := nI 7) ((congrArg (fun j => nI (F j)) (nI_clamp (show 4 * c < 2 ^ 31 by omega))).trans (congrArg nI f0)) ?_)
        refine v_istore C [(7, .int (nI 7)), (6, .int (nI c)), (5, .int (nI j)), (3, .int (gI m)), (4, .ref q1), (0, .int (nI k)), (1, .ref fa), (2, .int z2)] rfl (by decide) dL_names_37 ?_
        refine v_iload C 0 rfl dL_names_39 ?_
        refine v_bipush (v := 6) C dL_names_41 (by decide) ?_
        refine v_icmp_ne (tgt := 71) C dL_names_43 (by decide) (fun c50 => ?_) (fun c50 => absurd c50 (by decide))
        refine v_iload C 0 rfl dL_names_71 ?_
        refine v_iconst (v := 4) C dL_names_73 (by decide) ?_
        refine v_icmp_lt (tgt := 84) C dL_names_74 (by decide) (fun c51 => absurd c51 (by decide)) (fun c51 => ?_)
        refine v_iload C 0 rfl dL_names_77 ?_
        refine v_bipush (v := 6) C dL_names_79 (by decide) ?_
        refine v_icmp_le (tgt := 100) C dL_names_81 (by decide) (fun c52 => absurd c52 (by decide)) (fun c52 => ?_)
        refine v_aload C 4 rfl dL_names_84 ?_
        refine v_iload C 2 rfl dL_names_86 ?_
        refine v_aload_n C 6 rfl dL_names_88 rfl ?_
        refine v_iconst (v := 4) C dL_names_89 (by decide) ?_
        refine v_iload C 1 rfl dL_names_90 ?_
        refine v_imul C dL_names_92 (v_eqi (nI_kml c 4 (by decide)) ?_)
        refine v_iconst (v := 1) C dL_names_93 (by decide) ?_
        refine v_iadd C dL_names_94 (v_eqi (nI_adk (4 * c) 1 (by decide)) ?_)
        refine v_iald C hF2 (vpin (show 4 * c + 1 < 60 by omega) (by decide)) dL_names_95 (v_eqi (y := nI (F (4 * c + 1))) (congrArg (fun j => nI (F j)) (nI_clamp (show 4 * c + 1 < 2 ^ 31 by omega))) ?_)
        refine v_iast C hA2 (vpin (show j < 32 by omega) (by decide)) dL_names_96 (v_nw (fun h55 eh55 => ?_))
        rw [upd_nI (show j < 2 ^ 31 by omega)] at eh55
        have hA55 : iC G h55 q1 32 (up2 o2 (j) (nI (F (4 * c + 1)))) := by rw [eh55]; exact zup_self _ _ _
        have hK55 : ∀ b e, h b = some e → h55 b = some e := fun b e hb => by rw [eh55, zup_ne _ _ (zne_new nq1 hb)]; exact hK2 b e hb
        have hF55 : iC G h55 fa 60 (fN F) := hK55 fa _ hF
        refine v_iinc C 2 [(5, .int (nI (j + 1))), (7, .int (nI 7)), (6, .int (nI c)), (3, .int (gI m)), (4, .ref q1), (0, .int (nI k)), (1, .ref fa), (2, .int z2)] rfl (nI_inc j 1 (by decide)) rfl (by decide) dL_names_97 ?_
        refine v_iload C 1 rfl dL_names_100 ?_
        refine v_iconst (v := 4) C dL_names_102 (by decide) ?_
        refine v_icmp_ge (tgt := 122) C dL_names_103 (by decide) (fun c57 => ?_) (fun c57 => absurd c57 (by decide))
        refine v_goto (tgt := 16) C dL_names_122 (by decide) ?_
        refine v_lvp [0, 3, 4, 5, 6, 7] rfl ?_
        refine ihn j (F (4 * c + 1)) m (up2 o2 (j) (nI (F (4 * c + 1)))) h55 (by omega) (by omega) (by omega) hm10 (up2_s) hK55 hA55 (fun o3 h3 ho3 hK3 hA3 => ?_)
        have hg0 : gtk (T c) = gtk (T (F (4 * c + 1))) := by rw [fT, gtk_app]; exact Nat.max_eq_left (Nat.zero_le _)
        rw [← hg0]
        exact cont o3 h3 (fun i hi => (ho3 i hi).trans (up2_n (by omega))) hK3 hA3
      · refine v_iload C 0 rfl dL_names_16 ?_
        refine v_if_le (tgt := 125) C dL_names_18 (by decide) (fun c58 => absurd ((nk_le (a := j + 1) 0 (by decide) (by omega) (by decide)).mp c58) (by omega)) (fun c58 => ?_)
        have c58 := (nk_le_f (a := (j + 1)) 0 (by decide) (by omega) (by decide)).mp c58
        refine v_iinc C 0 [(5, .int (nI j)), (3, .int (gI m)), (4, .ref q1), (0, .int (nI k)), (1, .ref fa), (2, .int z2)] rfl ((nI_dec (p := j + 1) (by omega)).trans (congrArg nI (show j + 1 - 1 = j by omega))) rfl (by decide) dL_names_21 ?_
        refine v_aload C 2 rfl dL_names_24 ?_
        refine v_iload C 0 rfl dL_names_26 ?_
        refine v_iald C hA2 (vpin (show j < 32 by omega) (by decide)) dL_names_28 (v_eqi (y := (nI c)) ((congrArg o2 (nI_clamp (show j < 2 ^ 31 by omega))).trans hoj) ?_)
        refine v_istore C [(6, .int (nI c)), (5, .int (nI j)), (3, .int (gI m)), (4, .ref q1), (0, .int (nI k)), (1, .ref fa), (2, .int z2)] rfl (by decide) dL_names_29 ?_
        refine v_aload_n C 5 rfl dL_names_31 rfl ?_
        refine v_iconst (v := 4) C dL_names_32 (by decide) ?_
        refine v_iload C 0 rfl dL_names_33 ?_
        refine v_imul C dL_names_35 (v_eqi (nI_kml c 4 (by decide)) ?_)
        refine v_iald C hF2 (vpin (show 4 * c < 60 by omega) (by decide)) dL_names_36 (v_eqi (y := nI 8) ((congrArg (fun j => nI (F j)) (nI_clamp (show 4 * c < 2 ^ 31 by omega))).trans (congrArg nI f0)) ?_)
        refine v_istore C [(7, .int (nI 8)), (6, .int (nI c)), (5, .int (nI j)), (3, .int (gI m)), (4, .ref q1), (0, .int (nI k)), (1, .ref fa), (2, .int z2)] rfl (by decide) dL_names_37 ?_
        refine v_iload C 0 rfl dL_names_39 ?_
        refine v_bipush (v := 6) C dL_names_41 (by decide) ?_
        refine v_icmp_ne (tgt := 71) C dL_names_43 (by decide) (fun c61 => ?_) (fun c61 => absurd c61 (by decide))
        refine v_iload C 0 rfl dL_names_71 ?_
        refine v_iconst (v := 4) C dL_names_73 (by decide) ?_
        refine v_icmp_lt (tgt := 84) C dL_names_74 (by decide) (fun c62 => absurd c62 (by decide)) (fun c62 => ?_)
        refine v_iload C 0 rfl dL_names_77 ?_
        refine v_bipush (v := 6) C dL_names_79 (by decide) ?_
        refine v_icmp_le (tgt := 100) C dL_names_81 (by decide) (fun c63 => absurd c63 (by decide)) (fun c63 => ?_)
        refine v_aload C 4 rfl dL_names_84 ?_
        refine v_iload C 2 rfl dL_names_86 ?_
        refine v_aload_n C 6 rfl dL_names_88 rfl ?_
        refine v_iconst (v := 4) C dL_names_89 (by decide) ?_
        refine v_iload C 1 rfl dL_names_90 ?_
        refine v_imul C dL_names_92 (v_eqi (nI_kml c 4 (by decide)) ?_)
        refine v_iconst (v := 1) C dL_names_93 (by decide) ?_
        refine v_iadd C dL_names_94 (v_eqi (nI_adk (4 * c) 1 (by decide)) ?_)
        refine v_iald C hF2 (vpin (show 4 * c + 1 < 60 by omega) (by decide)) dL_names_95 (v_eqi (y := nI (F (4 * c + 1))) (congrArg (fun j => nI (F j)) (nI_clamp (show 4 * c + 1 < 2 ^ 31 by omega))) ?_)
        refine v_iast C hA2 (vpin (show j < 32 by omega) (by decide)) dL_names_96 (v_nw (fun h66 eh66 => ?_))
        rw [upd_nI (show j < 2 ^ 31 by omega)] at eh66
        have hA66 : iC G h66 q1 32 (up2 o2 (j) (nI (F (4 * c + 1)))) := by rw [eh66]; exact zup_self _ _ _
        have hK66 : ∀ b e, h b = some e → h66 b = some e := fun b e hb => by rw [eh66, zup_ne _ _ (zne_new nq1 hb)]; exact hK2 b e hb
        have hF66 : iC G h66 fa 60 (fN F) := hK66 fa _ hF
        refine v_iinc C 2 [(5, .int (nI (j + 1))), (7, .int (nI 8)), (6, .int (nI c)), (3, .int (gI m)), (4, .ref q1), (0, .int (nI k)), (1, .ref fa), (2, .int z2)] rfl (nI_inc j 1 (by decide)) rfl (by decide) dL_names_97 ?_
        refine v_iload C 1 rfl dL_names_100 ?_
        refine v_iconst (v := 4) C dL_names_102 (by decide) ?_
        refine v_icmp_ge (tgt := 122) C dL_names_103 (by decide) (fun c68 => ?_) (fun c68 => absurd c68 (by decide))
        refine v_goto (tgt := 16) C dL_names_122 (by decide) ?_
        refine v_lvp [0, 3, 4, 5, 6, 7] rfl ?_
        refine ihn j (F (4 * c + 1)) m (up2 o2 (j) (nI (F (4 * c + 1)))) h66 (by omega) (by omega) (by omega) hm10 (up2_s) hK66 hA66 (fun o3 h3 ho3 hK3 hA3 => ?_)
        have hg0 : gtk (T c) = gtk (T (F (4 * c + 1))) := by rw [fT, gtk_app]; exact Nat.max_eq_left (Nat.zero_le _)
        rw [← hg0]
        exact cont o3 h3 (fun i hi => (ho3 i hi).trans (up2_n (by omega))) hK3 hA3
  rw [show (-1 : Int32) = gI 0 by decide]
  refine v_lvp (lv2 := [(5, .int (nI (0 + 1))), (3, .int (gI 0)), (4, .ref q1), (0, .int (nI k)), (1, .ref fa), (2, .int z2)]) [0, 2, 1, 3, 4, 5] rfl ?_
  refine N 6 0 k 0 _ h3 hk (he.2.2.1 k hk).2.1 (by omega) (by omega) (if_pos rfl) (fun b e hb => by rw [eh3, zup_ne _ _ (zne_new nq1 hb), eh1, zup_ne _ _ (zne_new nq1 hb)]; exact hb) hA0 (fun o3 h3 ho3 hK3 hA3 => ?_)
  rw [Nat.zero_max]
  refine v_iload C 0 rfl dL_names_16 ?_
  refine v_if_le (tgt := 125) C dL_names_18 (by decide) (fun c69 => ?_) (fun c69 => absurd c69 (by decide))
  refine v_iload_n C 1 rfl dL_names_125 rfl ?_
  exact v_iret C hQ hr rfl (Nat.le_of_ble_eq_true rfl) (Nat.le_of_ble_eq_true rfl) dL_names_126 ⟨rfl, hK3⟩

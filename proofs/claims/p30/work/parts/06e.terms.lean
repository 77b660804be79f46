/-! settling the terms -/
theorem SF.put5 {G : zG} {g : XGh} {A V : Nat → Nat → Int64} {h h1 h2 : zH} {i : Nat} {e : va_E} (k : SF G g A V (E5 i) h h1) (hr : qR g (qA g 5 i) = (5, i)) (eh : h2 = zup h1 (qA g 5 i) e) : SF G g A V (E5 i) h h2 := by
  have ne : ∀ b, (qR g b = (5, i) → False) → b ≠ qA g 5 i := fun b hb z => hb (by rw [z]; exact hr)
  refine ⟨fun b x hb h12 hE => ?_, fun b f hb h12 => ?_⟩
  · rw [eh, zup_ne _ _ (ne b hE)]; exact k.1 b x hb h12 hE
  · rw [eh, zup_ne _ _ (ne b (fun z => by rw [z] at h12; exact absurd h12 (show ¬ (5 : Nat) = 12 by decide)))]; exact k.2 b f hb h12
theorem shd_next {d : Nat → Option (List Tok)} {q : Nat} (h1 : 1 ≤ q) (h : d q = none) : shd d q = shd d (q - 1) := by
  obtain ⟨p, rfl⟩ : ∃ p, q = p + 1 := ⟨q - 1, by omega⟩
  show (match d (p + 1) with | some f => some f | none => shd d p) = _
  rw [h]; rfl
theorem shd_at {d : Nat → Option (List Tok)} {q : Nat} {t : List Tok} (h : shd d q = some t) : ∃ p, p ≤ q ∧ d p = some t := by
  induction q with
  | zero => exact ⟨0, Nat.le_refl _, h⟩
  | succ q ih =>
    cases hd : d (q + 1) with
    | some f =>
      rw [shd_some hd] at h
      cases h
      exact ⟨q + 1, Nat.le_refl _, hd⟩
    | none =>
      rw [shd_next (by omega) hd] at h
      obtain ⟨p, p1, p2⟩ := ih h
      exact ⟨p, by omega, p2⟩
theorem oV_eq {s : ZS} (hw : WFs s) {n : Nat} (hn : n < oN s) (q : Nat) : rowOf (oAL s) (oV s) ((shd (oD s n) q).getD []) q = oV s n q := by
  have e1 : oV s n = sval (oAL s) (oD s) (n + 1) n := sval_lt hn
  have e2 : sval (oAL s) (oD s) (n + 1) n = fun q => rowOf (oAL s) (sval (oAL s) (oD s) n) ((shd (oD s n) q).getD []) q := if_pos rfl
  rw [e1, e2]
  show _ = rowOf (oAL s) (sval (oAL s) (oD s) n) ((shd (oD s n) q).getD []) q
  cases hd : shd (oD s n) q with
  | none => rfl
  | some t =>
    obtain ⟨p, -, hp⟩ := shd_at hd
    obtain ⟨w1, w2⟩ := (hw.2.2.1.2.1 n hn).2.2.2 p t hp
    show rowOf (oAL s) (oV s) t q = rowOf (oAL s) (sval (oAL s) (oD s) n) t q
    rw [w1.congr w2 (fun k hk => (show oV s k = sval (oAL s) (oD s) n k from (show oV s k = sval (oAL s) (oD s) (k + 1) k from sval_lt (by omega)).trans (sval_lt hk).symm))]
theorem mr_get {f : Nat → Nat} {N n : Nat} (h : n < N) : ((List.range N).map f).getD n 0 = f n := by
  rw [List.getD_eq_getElem?_getD, List.getElem?_eq_getElem (by simpa using h)]; simp
theorem mr_len {f : Nat → Nat} {N : Nat} : ((List.range N).map f).length = N := by simp
theorem cpZ : (nI 0).toNatClampNeg = 0 := nI_clamp (by decide)
theorem row_ne5 {G : zG} {g : XGh} {A V : Nat → Nat → Int64} {h : zH} {N i : Nat} {tl : Nat → Nat} (x : SC G h g N tl A V i) {b : Nat} (hb : qR g b = (11, 0)) (hg : gtk (qT g b) ≤ i) (hr : qR g (qA g 5 i) = (5, i)) : qN g b 0 ≠ qA g 5 i := fun e => by
  rcases row_role x hb hg with ⟨k, -, q⟩ | ⟨k, hk, q⟩ | q
  · rw [e, hr] at q; cases q
  · rw [e, hr] at q; cases q; omega
  · rw [e, hr] at q; cases q
set_option maxHeartbeats 4000000 in
set_option maxRecDepth 100000 in
theorem c_X4_settleTerm (l : Launch) (hl : l.stackTraces = false) (G : zG) (i N : Nat) (tl : Nat → Nat) (g : XGh) (A B : Nat → Nat → Int64) (D : Nat → Option (List Tok)) (fd : Nat → Option Nat) (f5 : Nat → Int64) (w0 w2 : Value) (h : zH) (hsc : SC G h g N tl A B i) (r3 : qR g (qA g 3 i) = (3, i)) (r4 : qR g (qA g 4 i) = (4, i)) (r5 : qR g (qA g 5 i) = (5, i)) (ht3 : h (qA g 3 i) = some (.inr (6, [w0, .ref (qA g 4 i), w2, .ref (qA g 5 i)]))) (ht4 : h (qA g 4 i) = some (.inl (gc G 6, 20, .inr (.inr (.inr (.inr fd)))))) (ht5 : h (qA g 5 i) = some (cL G f5)) (hdf : ∀ q, q < 20 → (fd q = none ∧ D q = none) ∨ ∃ a, fd q = some a ∧ qR g a = (11, 0) ∧ D q = some (qT g a)) (hD0 : D 0 ≠ none) (hDg : ∀ q t, D q = some t → gtk t ≤ i) : zMet eV l yX4_settleTerm cX4_settleTerm 4 none 28 0 0 G [.ref (qA g 3 i)] h (fun _ h2 => SF G g A B (E5 i) h h2 ∧ ∃ f2, h2 (qA g 5 i) = some (cL G f2) ∧ ∀ q, q < 20 → f2 q = rowOf A B ((shd D q).getD []) q) := by
  refine con_of hl RX4 rfl (by decide +kernel) [(0, .ref (qA g 3 i))] rfl (Nat.le_of_ble_eq_true rfl) ?_
  intro zp ze zs zm zargs zbelow zmeth zc C hr hin Q hQ
  refine v_null C dX4_settleTerm_0 ?_
  refine v_astore_nN C [(1, .null), (0, .ref (qA g 3 i))] rfl (by decide) dX4_settleTerm_1 rfl ?_
  refine v_iconst (v := (nI 0)) C dX4_settleTerm_2 (by decide) ?_
  refine v_istore_n C [(2, .int (nI 0)), (1, .null), (0, .ref (qA g 3 i))] rfl (by decide) dX4_settleTerm_3 rfl ?_
  refine v_iload_n C 0 rfl dX4_settleTerm_4 rfl ?_
  refine v_bipush (v := 20) C dX4_settleTerm_5 (by decide) ?_
  refine v_icmp_ge (tgt := 51) C dX4_settleTerm_7 (by decide) (fun c1 => absurd c1 (by decide)) (fun c1 => ?_)
  refine v_aload_n C 2 rfl dX4_settleTerm_10 rfl ?_
  refine v_get (v := .ref (qA g 4 i)) C F_X4_203 ht3 rfl dX4_settleTerm_11 ?_
  refine v_iload_n C 0 rfl dX4_settleTerm_14 rfl ?_
  rcases hdf 0 (by omega) with ⟨z1, z2⟩ | ⟨b2, z1, z2, z3⟩
  · exact absurd z2 hD0
  · refine v_aald C 6 rfl rfl ht4 (vpin (show 0 < 20 by omega) (by decide)) dX4_settleTerm_15 ?_
    rw [nI_clamp (show 0 < 2 ^ 31 by omega), z1]
    have hgb : gtk (qT g b2) ≤ i := hDg _ _ z3
    have hlb : qL g b2 ≤ 6 := (hsc.2.2 _ z2).2.1
    refine v_astore_n C [(3, .ref b2), (2, .int (nI 0)), (1, .null), (0, .ref (qA g 3 i))] rfl (by decide) dX4_settleTerm_16 rfl ?_
    refine v_aload_n C 0 rfl dX4_settleTerm_17 rfl ?_
    refine v_ifnull C dX4_settleTerm_18 ?_
    refine v_aload_n C 0 rfl dX4_settleTerm_21 rfl ?_
    refine v_astore_n C [(1, .ref b2), (3, .ref b2), (2, .int (nI 0)), (0, .ref (qA g 3 i))] rfl (by decide) dX4_settleTerm_22 rfl ?_
    refine v_aload_n C 0 rfl dX4_settleTerm_23 rfl ?_
    refine v_bipush (v := 6) C dX4_settleTerm_24 (by decide) ?_
    refine v_callS (rest := []) C (c_settle l hl G g N tl A B i 6 (Nat.le_refl 6) b2 h hsc z2 hgb hlb) S_X4_232 rfl rfl (Nat.le_of_ble_eq_true rfl) ⟨Nat.le_of_ble_eq_true rfl, Nat.le_of_ble_eq_true rfl⟩ ⟨Nat.le_of_ble_eq_true rfl, Nat.le_of_ble_eq_true rfl⟩ dX4_settleTerm_26 (fun _ h3 w3 => ?_)
    obtain ⟨sf3, rc3⟩ := w3
    have k4 := sf3.cell ht3 r3 (by simp) (fun z => z)
    have k5 := sf3.cell ht4 r4 (by simp) (fun z => z)
    have k6 := sf3.cell ht5 r5 (by simp) (fun z => z)
    have sfw3 : SF G g A B (E5 i) h h3 := sf3.weak (fun _ z => z.elim)
    have sc3 := hsc.sf sf3 (fun z => z) (fun z => z) (fun _ z => z) (fun _ _ z => z)
    refine v_aload_n C 0 rfl dX4_settleTerm_29 rfl ?_
    refine v_ifnull C dX4_settleTerm_30 ?_
    refine v_aload_n C 3 rfl dX4_settleTerm_33 rfl ?_
    refine v_get (v := .ref (qA g 5 i)) C F_X4_113 k4 rfl dX4_settleTerm_34 ?_
    refine v_iload_n C 2 rfl dX4_settleTerm_37 rfl ?_
    refine v_aload_n C 0 rfl dX4_settleTerm_38 rfl ?_
    obtain ⟨-, -, -, -, -, kx7, px7, cx7, cy7, hc7, -⟩ := sc3.2.2 _ z2
    obtain ⟨fa7, hfa7, hqa7⟩ := rc3
    refine v_get (v := .ref (qN g b2 0)) C F_X4_236 hc7 rfl dX4_settleTerm_39 ?_
    refine v_iload_n C 2 rfl dX4_settleTerm_42 rfl ?_
    refine v_lald C hfa7 (vpin (show 0 < 20 by omega) (by decide)) dX4_settleTerm_43 (v_eql (y := fa7 0) (congrArg fa7 (nI_clamp (show 0 < 2 ^ 31 by omega))) ?_)
    refine v_last C k6 (vpin (by omega) (by decide)) dX4_settleTerm_44 (v_nw (fun h8 eh8 => ?_))
    have k9 : h8 (qA g 3 i) = some (.inr (6, [w0, .ref (qA g 4 i), w2, .ref (qA g 5 i)])) := by rw [eh8, zup_ne _ _ (rne r5 r3 (by simp))]; exact k4
    have k10 : h8 (qA g 4 i) = some (.inl (gc G 6, 20, .inr (.inr (.inr (.inr fd))))) := by rw [eh8, zup_ne _ _ (rne r5 r4 (by simp))]; exact k5
    have k11 : h8 (qN g b2 0) = some (.inl (gc G 1, 20, .inr (.inl fa7))) := by rw [eh8, zup_ne _ _ (row_ne5 hsc z2 hgb r5)]; exact hfa7
    have k12 : h8 (qA g 5 i) = some (.inl (gc G 1, 20, .inr (.inl (vp_updL f5 (nI 0).toNatClampNeg (fa7 0))))) := by rw [eh8]; exact zup_self _ _ _
    have sfp13 := (sfw3).put5 r5 eh8
    have sc13 : SC G h8 g N tl A B i := hsc.sf sfp13 (fun z => by cases z) (fun z => by cases z) (fun _ z => by cases z) (fun _ hz z => by cases z; omega)
    have k14 : RC G h8 g A B b2 := ⟨fa7, k11, hqa7⟩
    refine v_iinc C 2 [(2, .int (nI (0 + 1))), (1, .ref b2), (3, .ref b2), (0, .ref (qA g 3 i))] rfl (nI_inc 0 1 (by decide)) rfl (by decide) dX4_settleTerm_45 ?_
    refine v_goto (tgt := 4) C dX4_settleTerm_48 (by decide) ?_
    have L16 : ∀ (d : Nat) (q a : Nat) (g5 : Nat → Int64) (h2 : zH), (1 ≤ q) → (q ≤ 20) → (qR g a = (11, 0)) → (gtk (qT g a) ≤ i) → (shd D (q - 1) = some (qT g a)) → (SF G g A B (E5 i) h h2) → (RC G h2 g A B a) → (h2 (qA g 3 i) = some (.inr (6, [w0, .ref (qA g 4 i), w2, .ref (qA g 5 i)]))) → (h2 (qA g 4 i) = some (.inl (gc G 6, 20, .inr (.inr (.inr (.inr fd)))))) → (h2 (qA g 5 i) = some (cL G g5)) → (∀ z, z < q → g5 z = rowOf A B ((shd D z).getD []) z) → (21 ≤ q + d) → V zp l ze (rmm 28 0 0) zs zm zargs zbelow zmeth zc G 4 Q h2 (0 + 0) (0 + 0) 4 [(2, .int (nI q)), (1, .ref a), (0, .ref (qA g 3 i))] [] := by
      intro d
      induction d with
      | zero =>
        intro q a g5 h2 hq1 hq ra hga hsh sf2 rc2 kt3 kt4 kt5 kv hd
        exact absurd hd (by omega)
      | succ d ih16 =>
        intro q a g5 h2 hq1 hq ra hga hsh sf2 rc2 kt3 kt4 kt5 kv hd
        refine v_iload_n C 0 rfl dX4_settleTerm_4 rfl ?_
        refine v_bipush (v := 20) C dX4_settleTerm_5 (by decide) ?_
        refine v_icmp_ge (tgt := 51) C dX4_settleTerm_7 (by decide) (fun c17 => ?_) (fun c17 => ?_)
        · have c17 := (nk_ge (a := q) 20 (by decide) (by omega) (by decide)).mp c17
          exact v_vret C hQ hr (Nat.le_of_ble_eq_true rfl) (Nat.le_of_ble_eq_true rfl) dX4_settleTerm_51 ⟨sf2, g5, kt5, fun z hz => kv z (by omega)⟩
        · have c17 := (nk_ge_f (a := q) 20 (by decide) (by omega) (by decide)).mp c17
          have sc2 := hsc.sf sf2 (fun z => by cases z) (fun z => by cases z) (fun _ z => by cases z) (fun _ hz z => by cases z; omega)
          refine v_aload_n C 2 rfl dX4_settleTerm_10 rfl ?_
          refine v_get (v := .ref (qA g 4 i)) C F_X4_203 kt3 rfl dX4_settleTerm_11 ?_
          refine v_iload_n C 0 rfl dX4_settleTerm_14 rfl ?_
          rcases hdf q (by omega) with ⟨z1, z2⟩ | ⟨b18, z1, z2, z3⟩
          · refine v_aald C 6 rfl rfl kt4 (vpin (show q < 20 by omega) (by decide)) dX4_settleTerm_15 ?_
            rw [nI_clamp (show q < 2 ^ 31 by omega), z1]
            refine v_astore_nN C [(3, .null), (2, .int (nI q)), (1, .ref a), (0, .ref (qA g 3 i))] rfl (by decide) dX4_settleTerm_16 rfl ?_
            refine v_aload_nN C 0 rfl dX4_settleTerm_17 rfl ?_
            refine v_ifnullN (tgt := 29) C dX4_settleTerm_18 (by decide) ?_
            have z2n := z2
            refine v_aload_n C 2 rfl dX4_settleTerm_29 rfl ?_
            refine v_ifnull C dX4_settleTerm_30 ?_
            refine v_aload_n C 3 rfl dX4_settleTerm_33 rfl ?_
            refine v_get (v := .ref (qA g 5 i)) C F_X4_113 kt3 rfl dX4_settleTerm_34 ?_
            refine v_iload_n C 1 rfl dX4_settleTerm_37 rfl ?_
            refine v_aload_n C 2 rfl dX4_settleTerm_38 rfl ?_
            obtain ⟨-, -, -, -, -, kx19, px19, cx19, cy19, hc19, -⟩ := sc2.2.2 _ ra
            obtain ⟨fa19, hfa19, hqa19⟩ := rc2
            refine v_get (v := .ref (qN g a 0)) C F_X4_236 hc19 rfl dX4_settleTerm_39 ?_
            refine v_iload_n C 1 rfl dX4_settleTerm_42 rfl ?_
            refine v_lald C hfa19 (vpin (show q < 20 by omega) (by decide)) dX4_settleTerm_43 (v_eql (y := fa19 q) (congrArg fa19 (nI_clamp (show q < 2 ^ 31 by omega))) ?_)
            refine v_last C kt5 (vpin (by omega) (by decide)) dX4_settleTerm_44 (v_nw (fun h20 eh20 => ?_))
            have k21 : h20 (qA g 3 i) = some (.inr (6, [w0, .ref (qA g 4 i), w2, .ref (qA g 5 i)])) := by rw [eh20, zup_ne _ _ (rne r5 r3 (by simp))]; exact kt3
            have k22 : h20 (qA g 4 i) = some (.inl (gc G 6, 20, .inr (.inr (.inr (.inr fd))))) := by rw [eh20, zup_ne _ _ (rne r5 r4 (by simp))]; exact kt4
            have k23 : h20 (qN g a 0) = some (.inl (gc G 1, 20, .inr (.inl fa19))) := by rw [eh20, zup_ne _ _ (row_ne5 hsc ra hga r5)]; exact hfa19
            have k24 : h20 (qA g 5 i) = some (.inl (gc G 1, 20, .inr (.inl (vp_updL g5 (nI q).toNatClampNeg (fa19 q))))) := by rw [eh20]; exact zup_self _ _ _
            have sfp25 := (sf2).put5 r5 eh20
            have sc25 : SC G h20 g N tl A B i := hsc.sf sfp25 (fun z => by cases z) (fun z => by cases z) (fun _ z => by cases z) (fun _ hz z => by cases z; omega)
            have k26 : RC G h20 g A B a := ⟨fa19, k23, hqa19⟩
            refine v_iinc C 1 [(2, .int (nI (q + 1))), (3, .null), (1, .ref a), (0, .ref (qA g 3 i))] rfl (nI_inc q 1 (by decide)) rfl (by decide) dX4_settleTerm_45 ?_
            refine v_goto (tgt := 4) C dX4_settleTerm_48 (by decide) ?_
            refine v_lvp [0, 2, 3] rfl ?_
            have hs2 : shd D q = some (qT g a) := (shd_next hq1 z2n).trans hsh
            exact ih16 (q + 1) a _ h20 (by omega) (by omega) ra hga (by rw [show q + 1 - 1 = q by omega]; exact hs2) sfp25 k26 k21 k22 k24 (fun z hz => by
                  rw [nI_clamp (show q < 2 ^ 31 by omega)]
                  by_cases y : z = q
                  · subst y; rw [pk_uLs, hs2]; exact hqa19 _ (by omega)
                  · rw [pk_uLn y]; exact kv z (by omega)) (by omega)
          · refine v_aald C 6 rfl rfl kt4 (vpin (show q < 20 by omega) (by decide)) dX4_settleTerm_15 ?_
            rw [nI_clamp (show q < 2 ^ 31 by omega), z1]
            have hgb : gtk (qT g b18) ≤ i := hDg _ _ z3
            have hlb : qL g b18 ≤ 6 := (hsc.2.2 _ z2).2.1
            refine v_astore_n C [(3, .ref b18), (2, .int (nI q)), (1, .ref a), (0, .ref (qA g 3 i))] rfl (by decide) dX4_settleTerm_16 rfl ?_
            refine v_aload_n C 0 rfl dX4_settleTerm_17 rfl ?_
            refine v_ifnull C dX4_settleTerm_18 ?_
            refine v_aload_n C 0 rfl dX4_settleTerm_21 rfl ?_
            refine v_astore_n C [(1, .ref b18), (3, .ref b18), (2, .int (nI q)), (0, .ref (qA g 3 i))] rfl (by decide) dX4_settleTerm_22 rfl ?_
            refine v_aload_n C 0 rfl dX4_settleTerm_23 rfl ?_
            refine v_bipush (v := 6) C dX4_settleTerm_24 (by decide) ?_
            refine v_callS (rest := []) C (c_settle l hl G g N tl A B i 6 (Nat.le_refl 6) b18 h2 sc2 z2 hgb hlb) S_X4_232 rfl rfl (Nat.le_of_ble_eq_true rfl) ⟨Nat.le_of_ble_eq_true rfl, Nat.le_of_ble_eq_true rfl⟩ ⟨Nat.le_of_ble_eq_true rfl, Nat.le_of_ble_eq_true rfl⟩ dX4_settleTerm_26 (fun _ h28 w28 => ?_)
            obtain ⟨sf28, rc28⟩ := w28
            have k29 := sf28.cell kt3 r3 (by simp) (fun z => z)
            have k30 := sf28.cell kt4 r4 (by simp) (fun z => z)
            have k31 := sf28.cell kt5 r5 (by simp) (fun z => z)
            have sfw28 : SF G g A B (E5 i) h2 h28 := sf28.weak (fun _ z => z.elim)
            have sc28 := sc2.sf sf28 (fun z => z) (fun z => z) (fun _ z => z) (fun _ _ z => z)
            refine v_aload_n C 0 rfl dX4_settleTerm_29 rfl ?_
            refine v_ifnull C dX4_settleTerm_30 ?_
            refine v_aload_n C 3 rfl dX4_settleTerm_33 rfl ?_
            refine v_get (v := .ref (qA g 5 i)) C F_X4_113 k29 rfl dX4_settleTerm_34 ?_
            refine v_iload_n C 2 rfl dX4_settleTerm_37 rfl ?_
            refine v_aload_n C 0 rfl dX4_settleTerm_38 rfl ?_
            obtain ⟨-, -, -, -, -, kx32, px32, cx32, cy32, hc32, -⟩ := sc28.2.2 _ z2
            obtain ⟨fa32, hfa32, hqa32⟩ := rc28
            refine v_get (v := .ref (qN g b18 0)) C F_X4_236 hc32 rfl dX4_settleTerm_39 ?_
            refine v_iload_n C 2 rfl dX4_settleTerm_42 rfl ?_
            refine v_lald C hfa32 (vpin (show q < 20 by omega) (by decide)) dX4_settleTerm_43 (v_eql (y := fa32 q) (congrArg fa32 (nI_clamp (show q < 2 ^ 31 by omega))) ?_)
            refine v_last C k31 (vpin (by omega) (by decide)) dX4_settleTerm_44 (v_nw (fun h33 eh33 => ?_))
            have k34 : h33 (qA g 3 i) = some (.inr (6, [w0, .ref (qA g 4 i), w2, .ref (qA g 5 i)])) := by rw [eh33, zup_ne _ _ (rne r5 r3 (by simp))]; exact k29
            have k35 : h33 (qA g 4 i) = some (.inl (gc G 6, 20, .inr (.inr (.inr (.inr fd))))) := by rw [eh33, zup_ne _ _ (rne r5 r4 (by simp))]; exact k30
            have k36 : h33 (qN g b18 0) = some (.inl (gc G 1, 20, .inr (.inl fa32))) := by rw [eh33, zup_ne _ _ (row_ne5 hsc z2 hgb r5)]; exact hfa32
            have k37 : h33 (qA g 5 i) = some (.inl (gc G 1, 20, .inr (.inl (vp_updL g5 (nI q).toNatClampNeg (fa32 q))))) := by rw [eh33]; exact zup_self _ _ _
            have sfp38 := ((sf2.trans sfw28)).put5 r5 eh33
            have sc38 : SC G h33 g N tl A B i := hsc.sf sfp38 (fun z => by cases z) (fun z => by cases z) (fun _ z => by cases z) (fun _ hz z => by cases z; omega)
            have k39 : RC G h33 g A B b18 := ⟨fa32, k36, hqa32⟩
            refine v_iinc C 2 [(2, .int (nI (q + 1))), (1, .ref b18), (3, .ref b18), (0, .ref (qA g 3 i))] rfl (nI_inc q 1 (by decide)) rfl (by decide) dX4_settleTerm_45 ?_
            refine v_goto (tgt := 4) C dX4_settleTerm_48 (by decide) ?_
            refine v_lvp [0, 1, 3] rfl ?_
            have hs2 : shd D q = some (qT g b18) := shd_some z3
            exact ih16 (q + 1) b18 _ h33 (by omega) (by omega) z2 hgb (by rw [show q + 1 - 1 = q by omega]; exact hs2) sfp38 k39 k34 k35 k37 (fun z hz => by
                  rw [nI_clamp (show q < 2 ^ 31 by omega)]
                  by_cases y : z = q
                  · subst y; rw [pk_uLs, hs2]; exact hqa32 _ (by omega)
                  · rw [pk_uLn y]; exact kv z (by omega)) (by omega)
    refine v_lvp [0, 1, 3] rfl ?_
    exact L16 21 (0 + 1) b2 (vp_updL f5 (nI 0).toNatClampNeg (fa7 0)) h8 (by decide) (by decide) z2 hgb (show shd D 0 = _ from z3) sfp13 k14 k9 k10 k12 (fun z hz => by
          have : z = 0 := by omega
          subst this; rw [cpZ, pk_uLs, show shd D 0 = _ from z3]; exact hqa7 0 (by decide)) (by decide)

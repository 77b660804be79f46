/-! THE LAW's loop -/
theorem lt4 {L i : Nat} (hL : L ≤ 2048) (hi : i ≤ 4096) : (nI L - 4 < nI i) ↔ L < i + 4 := by
  have e4 : ((4 : Int32)).toInt = 4 := by decide
  have e : (nI L - 4).toInt = (L : Int) - 4 := by
    rw [Int32.toInt_sub, nI_toInt (by omega), e4]
    rw [Int.bmod_def]
    split <;> omega
  rw [i32_lt, e, nI_toInt (by omega)]
  omega
theorem tsw (w : Int32) : (w.toInt < 0 ∨ 26 < w.toInt) ∨ ∃ k : Nat, k ≤ 26 ∧ w = nI k := by
  by_cases h : w.toInt < 0 ∨ 26 < w.toInt
  · exact Or.inl h
  · refine Or.inr ⟨w.toInt.toNat, by omega, Int32.toInt_inj.mp ?_⟩
    rw [nI_toInt (by omega)]
    omega
section
variable {p : Program} {l : Launch} {e : Env} {s : State} {m : MethodId} {args : Array Value} {below : List Frame} {meth : Method} {c : Code} {G : zG}
set_option maxHeartbeats 4000000 in
set_option maxRecDepth 100000 in
theorem law_step (hl : l.stackTraces = false) (C : zOK p l e room_1 s m args below meth c G cL_law 8 RL) (hNc : zNc s) {sb L : Nat} {xs : Nat → Int32} (hX : va_X sb L xs s s.heap ∧ sb < s.heap.size ∧ sb < gN G) (hL : L ≤ 2048) (i : Nat) (hiL : i + 4 ≤ L) {Q : State → Prop} {h : zH} {g : XGh} {x mm o : Nat} {ad : Nat → Nat} {sz : ZS} (li : LI G h g x mm o ad sz) (cs sl : Nat) (hcs : cs + 20 ≤ 601024) (hsl : sl + 9000 ≤ 7293034)
    (next : ∀ (h2 : zH) (g2 : XGh) (ad2 : Nat → Nat) (s2 : ZS), LI G h2 g2 x mm o ad2 s2 → V p l e room_1 s m args below meth c G 8 Q h2 (cs + 20) (sl + 9000) 23 [(4, .int (nI (i + 4))), (0, .ref sb), (1, .ref x), (2, .ref mm), (3, .ref o)] []) :
    V p l e room_1 s m args below meth c G 8 Q h cs sl 32 [(4, .int (nI i)), (0, .ref sb), (1, .ref x), (2, .ref mm), (3, .ref o)] [] := by
  have kk : ∀ (h2 : zH) (g2 : XGh) (ad2 : Nat → Nat) (s2 : ZS), LI G h2 g2 x mm o ad2 s2 → V p l e room_1 s m args below meth c G 8 Q h2 (cs + 20) (sl + 9000) 1797 [(4, .int (nI i)), (0, .ref sb), (1, .ref x), (2, .ref mm), (3, .ref o)] [] := fun h2 g2 ad2 s2 li2 => by
    refine v_iinc (v := nI (i + 4)) C 0 _ rfl (nI_adk i 4 (by decide)) rfl (by decide) dL_law_1797 ?_
    refine v_goto (tgt := 23) C dL_law_1800 (by decide) ?_
    exact next h2 g2 ad2 s2 li2
  refine v_aload_n C 1 rfl dL_law_32 rfl ?_
  refine v_iload C 0 rfl dL_law_33 ?_
  refine v_sld C hX (vpin (show i < L by omega) (by omega)) dL_law_35 ?_
  refine v_bipush (v := 31) C dL_law_36 (by decide) ?_
  refine v_iand C dL_law_38 (v_topi (fun w ew => ?_))
  rcases tsw w with ht | ⟨k, hk, rfl⟩
  · refine v_tableOut (tgt := 1797) C dL_law_39 ht (by decide) ?_
    exact v_widen (by omega) (by omega) (kk h g ad sz li)
  · match k, hk with
    | 0, _ => exact v_tableIn (tgt := 160) (off := 121) C dL_law_39 (by decide) (by decide) (by decide) (by decide) (law_amount hl C hNc hX hL i hiL _ _ _ rfl rfl rfl li cs sl hcs hsl kk)
    | 1, _ => exact v_tableIn (tgt := 240) (off := 201) C dL_law_39 (by decide) (by decide) (by decide) (by decide) (law_account hl C hNc hX hL i hiL _ _ _ rfl rfl rfl li cs sl hcs hsl kk)
    | 2, _ => exact v_tableIn (tgt := 296) (off := 257) C dL_law_39 (by decide) (by decide) (by decide) (by decide) (law_number hl C hNc hX hL i hiL _ _ _ rfl rfl rfl li cs sl hcs hsl kk)
    | 3, _ => exact v_tableIn (tgt := 352) (off := 313) C dL_law_39 (by decide) (by decide) (by decide) (by decide) (law_term hl C hNc hX hL i hiL _ _ _ rfl rfl rfl li cs sl hcs hsl kk)
    | 4, _ => exact v_tableIn (tgt := 408) (off := 369) C dL_law_39 (by decide) (by decide) (by decide) (by decide) (law_join hl C hNc hX hL i hiL _ _ _ rfl rfl rfl li cs sl hcs hsl kk)
    | 5, _ => exact v_tableIn (tgt := 464) (off := 425) C dL_law_39 (by decide) (by decide) (by decide) (by decide) (law_share hl C hNc hX hL i hiL _ _ _ rfl rfl rfl li cs sl hcs hsl kk)
    | 6, _ => exact v_tableIn (tgt := 520) (off := 481) C dL_law_39 (by decide) (by decide) (by decide) (by decide) (law_year hl C hNc hX hL i hiL _ _ _ rfl rfl rfl li cs sl hcs hsl kk)
    | 7, _ => exact v_tableIn (tgt := 564) (off := 525) C dL_law_39 (by decide) (by decide) (by decide) (by decide) (law_clear hl C hNc hX hL i hiL _ _ _ rfl rfl rfl li cs sl hcs hsl kk)
    | 8, _ => exact v_tableIn (tgt := 577) (off := 538) C dL_law_39 (by decide) (by decide) (by decide) (by decide) (law_define hl C hNc hX hL i hiL _ _ _ rfl rfl rfl li cs sl hcs hsl kk)
    | 9, _ => exact v_tableIn (tgt := 621) (off := 582) C dL_law_39 (by decide) (by decide) (by decide) (by decide) (law_amend hl C hNc hX hL i hiL _ _ _ rfl rfl rfl li cs sl hcs hsl kk)
    | 10, _ => exact v_tableIn (tgt := 689) (off := 650) C dL_law_39 (by decide) (by decide) (by decide) (by decide) (law_terms hl C hNc hX hL i hiL _ _ _ rfl rfl rfl li cs sl hcs hsl kk)
    | 11, _ => exact v_tableIn (tgt := 702) (off := 663) C dL_law_39 (by decide) (by decide) (by decide) (by decide) (law_level hl C hNc hX hL i hiL _ _ _ rfl rfl rfl li cs sl hcs hsl kk)
    | 12, _ => exact v_tableIn (tgt := 758) (off := 719) C dL_law_39 (by decide) (by decide) (by decide) (by decide) (law_value hl C hNc hX hL i hiL _ _ _ rfl rfl rfl li cs sl hcs hsl kk)
    | 13, _ => exact v_tableIn (tgt := 825) (off := 786) C dL_law_39 (by decide) (by decide) (by decide) (by decide) (law_textLength hl C hNc hX hL i hiL _ _ _ rfl rfl rfl li cs sl hcs hsl kk)
    | 14, _ => exact v_tableIn (tgt := 893) (off := 854) C dL_law_39 (by decide) (by decide) (by decide) (by decide) (law_textChar hl C hNc hX hL i hiL _ _ _ rfl rfl rfl li cs sl hcs hsl kk)
    | 15, _ => exact v_tableIn (tgt := 973) (off := 934) C dL_law_39 (by decide) (by decide) (by decide) (by decide) (law_test hl C hNc hX hL i hiL _ _ _ rfl rfl rfl li cs sl hcs hsl kk)
    | 16, _ => exact v_tableIn (tgt := 1041) (off := 1002) C dL_law_39 (by decide) (by decide) (by decide) (by decide) (law_limit hl C hNc hX hL i hiL _ _ _ rfl rfl rfl li cs sl hcs hsl kk)
    | 17, _ => exact v_tableIn (tgt := 1121) (off := 1082) C dL_law_39 (by decide) (by decide) (by decide) (by decide) (law_wake hl C hNc hX hL i hiL _ _ _ rfl rfl rfl li cs sl hcs hsl kk)
    | 18, _ => exact v_tableIn (tgt := 1201) (off := 1162) C dL_law_39 (by decide) (by decide) (by decide) (by decide) (law_cure hl C hNc hX hL i hiL _ _ _ rfl rfl rfl li cs sl hcs hsl kk)
    | 19, _ => exact v_tableIn (tgt := 1281) (off := 1242) C dL_law_39 (by decide) (by decide) (by decide) (by decide) (law_waive hl C hNc hX hL i hiL _ _ _ rfl rfl rfl li cs sl hcs hsl kk)
    | 20, _ => exact v_tableIn (tgt := 1356) (off := 1317) C dL_law_39 (by decide) (by decide) (by decide) (by decide) (law_state hl C hNc hX hL i hiL _ _ _ rfl rfl rfl li cs sl hcs hsl kk)
    | 21, _ => exact v_tableIn (tgt := 1424) (off := 1385) C dL_law_39 (by decide) (by decide) (by decide) (by decide) (law_room hl C hNc hX hL i hiL _ _ _ rfl rfl rfl li cs sl hcs hsl kk)
    | 22, _ => exact v_tableIn (tgt := 1491) (off := 1452) C dL_law_39 (by decide) (by decide) (by decide) (by decide) (law_broken hl C hNc hX hL i hiL _ _ _ rfl rfl rfl li cs sl hcs hsl kk)
    | 23, _ => exact v_tableIn (tgt := 1504) (off := 1465) C dL_law_39 (by decide) (by decide) (by decide) (by decide) (law_basket hl C hNc hX hL i hiL _ _ _ rfl rfl rfl li cs sl hcs hsl kk)
    | 24, _ => exact v_tableIn (tgt := 1584) (off := 1545) C dL_law_39 (by decide) (by decide) (by decide) (by decide) (law_size hl C hNc hX hL i hiL _ _ _ rfl rfl rfl li cs sl hcs hsl kk)
    | 25, _ => exact v_tableIn (tgt := 1651) (off := 1612) C dL_law_39 (by decide) (by decide) (by decide) (by decide) (law_use hl C hNc hX hL i hiL _ _ _ rfl rfl rfl li cs sl hcs hsl kk)
    | 26, _ => exact v_tableIn (tgt := 1730) (off := 1691) C dL_law_39 (by decide) (by decide) (by decide) (by decide) (law_refill hl C hNc hX hL i hiL _ _ _ rfl rfl rfl li cs sl hcs hsl kk)
    | n + 27, hk => exact absurd hk (by omega)
theorem law_loop (hl : l.stackTraces = false) (C : zOK p l e room_1 s m args below meth c G cL_law 8 RL) (hNc : zNc s) {sb L : Nat} {xs : Nat → Int32} (hX : va_X sb L xs s s.heap ∧ sb < s.heap.size ∧ sb < gN G) (hL : L ≤ 2048) {Q : State → Prop} {x mm o : Nat}
    (fin : ∀ (h2 : zH) (lv2 : List (Nat × Value)), V p l e room_1 s m args below meth c G 8 Q h2 601024 7293034 1804 lv2 [.int 1]) :
    ∀ (d n : Nat) (h : zH) (g : XGh) (ad : Nat → Nat) (sz : ZS), LI G h g x mm o ad sz → L ≤ 4 * n + 4 * d → 4 * n ≤ L + 3 → V p l e room_1 s m args below meth c G 8 Q h (40 + 20 * n) (41000 + 9000 * n) 23 [(4, .int (nI (4 * n))), (0, .ref sb), (1, .ref x), (2, .ref mm), (3, .ref o)] [] := by
  intro d
  induction d with
  | zero =>
    intro n h g ad sz li h1 h2
    refine v_iload C 0 rfl dL_law_23 ?_
    refine v_aload_n C 1 rfl dL_law_25 rfl ?_
    refine v_slen C hX dL_law_26 ?_
    refine v_iconst (v := 4) C dL_law_27 (by decide) ?_
    refine v_isub C dL_law_28 ?_
    refine v_icmp_gt (tgt := 1803) C dL_law_29 (by decide) (fun _ => ?_) (fun q => absurd ((lt4 hL (by omega)).mpr (by omega)) q)
    refine v_iconst (v := 1) C dL_law_1803 (by decide) ?_
    exact v_widen (by omega) (by omega) (fin _ _)
  | succ d ih =>
    intro n h g ad sz li h1 h2
    refine v_iload C 0 rfl dL_law_23 ?_
    refine v_aload_n C 1 rfl dL_law_25 rfl ?_
    refine v_slen C hX dL_law_26 ?_
    refine v_iconst (v := 4) C dL_law_27 (by decide) ?_
    refine v_isub C dL_law_28 ?_
    refine v_icmp_gt (tgt := 1803) C dL_law_29 (by decide) (fun _ => ?_) (fun q => ?_)
    · refine v_iconst (v := 1) C dL_law_1803 (by decide) ?_
      exact v_widen (by omega) (by omega) (fin _ _)
    · have hiL : 4 * n + 4 ≤ L := Nat.not_lt.mp (fun z => q ((lt4 hL (by omega)).mpr z))
      refine law_step hl C hNc hX hL (4 * n) hiL li _ _ (by omega) (by omega) (fun h2 g2 ad2 s2 li2 => ?_)
      refine v_widen (c2 := 40 + 20 * (n + 1)) (s2 := 41000 + 9000 * (n + 1)) (by omega) (by omega) ?_
      rw [show 4 * n + 4 = 4 * (n + 1) by omega]
      exact ih (n + 1) h2 g2 ad2 s2 li2 (by omega) (by omega)
end
theorem LI.start {G : zG} {w2 w3 w4 w5 : zH} {x m o : Nat} {ad : Nat → Nat} {g : XGh} (xi : XI G w2 g x z0) (hr : ∀ b, qR g b ≠ (0, 0) → ∃ e, w2 b = some e) (nm : w2 m = none) (k23 : zKp (fun _ => False) w2 w3) (mo : MO G w4 w4 m ad z0 0) (na : ∀ k, k < 30 → mArr k = true → w3 (ad k) = none) (k34 : zKp (fun b => b = m) w3 w4) (no : w4 o = none) (e5 : w5 = zup w4 o (.inl (gc G 1, 1, .inr (.inl (fun _ => 0))))) : LI G w5 g x m o ad z0 := by
  have r0 : ∀ b, w2 b = none → qR g b = (0, 0) := fun b hb => Decidable.byContradiction (fun z => by
    obtain ⟨e, he⟩ := hr b z
    rw [hb] at he; cases he)
  obtain ⟨⟨vs, c1⟩, c2⟩ := mo.cells
  have rm := r0 m nm
  have om : o ≠ m := fun z => by rw [z, c1] at no; cases no
  have k5 : ∀ b e, w4 b = some e → w5 b = some e := fun b e hb => by rw [e5, zup_ne _ _ (zne_new no hb)]; exact hb
  have ro : qR g o = (0, 0) := r0 o (by
    cases z : w2 o with
    | none => rfl
    | some e => have := k34 o e om (k23 o e id z); rw [no] at this; cases this)
  refine ⟨xi.keep (fun b e hb hn => k5 b e (k34 b e (fun z => hn (by rw [show b = m from z]; exact rm)) (k23 b e id hb))), wf_z0, ⟨0, mo.keep (fun b e hb _ => k5 b e hb)⟩, rm, fun j hj => r0 _ ?_, ⟨_, by rw [e5]; exact zup_self _ _ _⟩, ro⟩
  cases z : w2 (ad j) with
  | none => rfl
  | some e => have := k23 _ e id z; rw [na j (mArr_lt hj) hj] at this; cases this

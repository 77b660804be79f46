/-! calls that add terms, tests, baskets; amending -/
section
variable {G : zG} {h h2 : zH} {g g2 : XGh} {x : Nat} {s : ZS}
theorem XL.next2 {j ar : Nat} {L L2 : List Nat} (hx : XL G h g j L) (hg2 : ∀ b e, h2 b = some e → b ≠ gs G 0) (st2 : ar = qA g 15 j ∨ h ar = none) (al : zAL G h2 (qA g 14 j) ar L2) (e14 : qA g2 14 j = qA g 14 j) (e15 : qA g2 15 j = ar) (r : ∀ b e, h b = some e → qR g2 b = qR g b) (rn : h ar = none → (∃ e, h2 ar = some e) → qR g2 ar = (15, j)) : XL G h2 g2 j L2 := by
  unfold XL
  rw [e14, e15]
  obtain ⟨-, ⟨mo, hm⟩, -⟩ := hx.1
  refine ⟨al, (r _ _ hm).trans hx.2.1, ?_⟩
  obtain ⟨-, -, z⟩ := al
  rcases z with ⟨z1, z2⟩ | ⟨f, z1, -⟩
  · exact Or.inr ⟨z1, z2⟩
  · left
    rcases st2 with q | q
    · rcases hx.2.2 with y | ⟨-, y⟩
      · subst q
        cases hh : h (qA g 15 j) with
        | none => exact rn hh ⟨_, z1⟩
        | some e => exact (r _ _ hh).trans y
      · exact absurd (q.trans y) (hg2 _ _ z1)
    · exact rn q ⟨_, z1⟩
theorem XL.drop {j : Nat} {L L2 : List Nat} (hx : XL G h g j L) (hne : L ≠ []) (al : zAL G h2 (qA g 14 j) (qA g 15 j) L2) (e14 : qA g2 14 j = qA g 14 j) (e15 : qA g2 15 j = qA g 15 j) (r : ∀ b e, h b = some e → qR g2 b = qR g b) : XL G h2 g2 j L2 := by
  unfold XL
  rw [e14, e15]
  obtain ⟨-, ⟨mo, hm⟩, w⟩ := hx.1
  refine ⟨al, (r _ _ hm).trans hx.2.1, ?_⟩
  rcases w with ⟨w, -⟩ | ⟨f, w, -⟩
  · exact absurd w hne
  · rcases hx.2.2 with y | ⟨y, -⟩
    · exact Or.inl ((r _ _ w).trans y)
    · exact absurd y hne
theorem rm_snoc {f f2 : Nat → Nat} {n q : Nat} (h : ∀ i, i < n → f2 i = f i) (hn : f2 n = q) : (List.range (n + 1)).map f2 = (List.range n).map f ++ [q] := by
  rw [List.range_succ, List.map_append, List.map_congr_left (fun i hi => h i (List.mem_range.mp hi))]
  show _ ++ [f2 n] = _
  rw [hn]
theorem p15 {i j t : Nat} (h : i ≠ j) : ((t, i) : Nat × Nat) ≠ (t, j) := fun z => h (by cases z; rfl)
theorem XI.test {q rl rc rv ar a b : Nat} {f : Nat → Int32} (hi : XI G h g x s) (hw : WFs s) (hg : ∀ b e, h b = some e → b ≠ gs G 0) (hg2 : ∀ b e, h2 b = some e → b ≠ gs G 0) (st : zSt h h2 (qA g 14 2) (qA g 15 2) ar) (al : zAL G h2 (qA g 14 2) ar ((List.range (rN s)).map (qA g 6) ++ [q])) (ha : a < oN s) (hb : b < oN s) (nq : h q = none) (nl : h rl = none) (nc : h rc = none) (nv : h rv = none) (d1 : rl ≠ rc) (d2 : rl ≠ rv) (d3 : rc ≠ rv)
    (hc : h2 q = some (.inr (5, [.ref (qA g 3 a), .ref (qA g 3 b), .ref rl, .int 0, .int (-1), .int 0, .ref rc, .int 0, .ref rv]))) (hl : h2 rl = some (.inl (gc G 0, 20, .inl f))) (hf : ∀ j, j < 20 → f j = -1) (hrc : h2 rc = some (.inl (gc G 0, 20, .inl (fun _ => 0)))) (hrv : h2 rv = some (.inl (gc G 4, 20, .inl (fun _ => 0)))) :
    XQ G h h2 g x (s.1, s.2.1, s.2.2.1, (rN s + 1, up2 (rT s) (rN s) a, up2 (rB s) (rN s) b, rL s, rW s, rE s, rC s, rV s), s.2.2.2.2) := by
  obtain ⟨⟨iO, iA, ⟨iL0, iL1, iL2, iL3⟩, iS, iN, iT, iR, iB⟩, iV⟩ := hi
  obtain ⟨n, en⟩ : ∃ n, n = rN s := ⟨_, rfl⟩
  obtain ⟨gz, egz⟩ : ∃ gz : XGh, gz = (rx (qR g) h (nrA q (6, n) (nrA rl (7, n) (nrA rc (8, n) (nrA rv (9, n) (nrA ar (15, 2) nr0))))), up3 (up3 (up3 (up3 (up3 (qA g) 15 2 ar) 6 n q) 7 n rl) 8 n rc) 9 n rv, qT g, qL g, qN g, qS g) := ⟨_, rfl⟩
  have k : KP (fun r => r ≠ (14, 2) ∧ r ≠ (15, 2)) (fun r => r ≠ (15, 2) ∧ r ≠ (6, n) ∧ r ≠ (7, n) ∧ r ≠ (8, n) ∧ r ≠ (9, n)) g gz h h2 := by
    rw [egz]
    exact KP.mk (st_keep iL2 hg st) (fun t k hu => by
      obtain ⟨u1, u2, u3, u4, u5⟩ := hu
      rw [up3_n (fun z => u5 (by rw [z.1, z.2])), up3_n (fun z => u4 (by rw [z.1, z.2])), up3_n (fun z => u3 (by rw [z.1, z.2])), up3_n (fun z => u2 (by rw [z.1, z.2])), up3_n (fun z => u1 (by rw [z.1, z.2]))]) (fun b e hb => ⟨rfl, rfl, rfl⟩)
  have ko : KO G g h h2 := k.ko (by simp)
  have rk : ∀ b e, h b = some e → qR gz b = qR g b := fun b e hb => (k.1 b e hb).2.1
  have rn : ∀ b, h b = none → qR gz b = nrA q (6, n) (nrA rl (7, n) (nrA rc (8, n) (nrA rv (9, n) (nrA ar (15, 2) nr0)))) b := fun b hb => by rw [egz]; exact rx_n hb
  have ez : qA gz = up3 (up3 (up3 (up3 (up3 (qA g) 15 2 ar) 6 n q) 7 n rl) 8 n rc) 9 n rv := by rw [egz]
  have e6 : qA gz 6 n = q := by rw [ez]; simp [up3]
  have e7 : qA gz 7 n = rl := by rw [ez]; simp [up3]
  have e8 : qA gz 8 n = rc := by rw [ez]; simp [up3]
  have e9 : qA gz 9 n = rv := by rw [ez]; simp [up3]
  have e15 : qA gz 15 2 = ar := by rw [ez]; simp [up3]
  have eS : qS gz = qS g := by rw [egz]
  have l1 : rl ≠ q := zne_oi hc hl
  have l2 : rc ≠ q := zne_oi hc hrc
  have l3 : rv ≠ q := zne_oi hc hrv
  have hw17 : rN s ≤ 6 := hw.2.2.2.2.1.1
  refine ⟨gz, ⟨⟨iO.fr k (by simp) (by simp) (by simp) (by simp) (by simp), iA.fr k (by simp) (by simp), ⟨by rw [eS]; exact iL0.fr k (by simp) (by simp) (by simp) (by simp), ?_, ?_, ?_⟩, ?_, fun a ha => ?_, fun i hi => (iT i hi).fr5 iN k (by simp) (by simp) (by simp) (by simp) (by simp) (by simp) rfl rfl, fun i hi => ?_, fun i hi => (iB i hi).fr k (by simp) (by simp) (by simp) rfl rfl rfl rfl⟩, iV.fr k iT (by simp) (by simp) rfl rfl⟩, k.fr0 (by simp)⟩
  · show XL G h2 gz 1 ((List.range (oN s)).map (qA gz 3))
    rw [List.map_congr_left (fun i hi => k.2 3 i (by simp))]
    exact iL1.fr k (by simp) (by simp) (by simp) (by simp)
  · show XL G h2 gz 2 ((List.range (rN s + 1)).map (qA gz 6))
    rw [rm_snoc (f := qA g 6) (f2 := qA gz 6) (q := q) (fun i hi => k.2 6 i ⟨by simp, p15 (by omega), by simp, by simp, by simp⟩) (by rw [← en]; exact e6)]
    refine iL2.next2 hg2 st.2 al (k.2 14 2 (by simp)) e15 rk (fun hn ⟨e, he⟩ => ?_)
    have hq : ∀ y, (∃ c, h2 y = some (.inr (5, c))) ∨ (∃ c m ff, h2 y = some (.inl (c, m, .inl ff))) → ar ≠ y := fun y hy z => by
      obtain ⟨-, -, w⟩ := al
      rcases w with ⟨w, -⟩ | ⟨ff, w, -⟩
      · simp at w
      · rcases hy with ⟨c, hy⟩ | ⟨c, m, f3, hy⟩
        · rw [z, hy] at w; cases w
        · rw [z] at w; exact zne_iq hy w rfl
    exact (rn _ hn).trans ((nrA_n (hq q (Or.inl ⟨_, hc⟩))).trans ((nrA_n (hq rl (Or.inr ⟨_, _, _, hl⟩))).trans ((nrA_n (hq rc (Or.inr ⟨_, _, _, hrc⟩))).trans ((nrA_n (hq rv (Or.inr ⟨_, _, _, hrv⟩))).trans nrA_s))))
  · show XL G h2 gz 3 ((List.range (bN s)).map (qA gz 10))
    rw [List.map_congr_left (fun i hi => k.2 10 i (by simp))]
    exact iL3.fr k (by simp) (by simp) (by simp) (by simp)
  · have z := iS.keep iN k eS (fun _ h => h)
    rw [← iS.2] at z; exact z
  · cases hh : h a with
    | some e => exact NF.fr iN ((rk a e hh).symm.trans ha) k ko (by simp) (by simp) (by simp) (by simp) (Nat.le_refl _) (fun _ _ => rfl)
    | none =>
      have ha2 := (rn a hh).symm.trans ha
      unfold nrA nr0 at ha2
      repeat' (split at ha2)
      all_goals cases ha2
  · have hi' : i < rN s + 1 := hi
    by_cases z : i = n
    · obtain ⟨w1, w2, w3⟩ := hw.2.2.2.2.1.2.2 i (by omega)
      unfold XR1
      rw [z, e6, e7, e8, e9]
      rw [z] at w1 w2 w3
      refine ⟨(rn _ nq).trans nrA_s, (rn _ nl).trans ((nrA_n l1).trans nrA_s), (rn _ nc).trans ((nrA_n l2).trans ((nrA_n d1.symm).trans nrA_s)), (rn _ nv).trans ((nrA_n l3).trans ((nrA_n d2.symm).trans ((nrA_n d3.symm).trans nrA_s))), ?_, ⟨f, hl, fun z hz => (hf z hz).trans (w3 z).1.symm⟩, ⟨_, hrc, fun z hz => (w3 z).2.1.symm⟩, _, hrv, fun z hz => ?_⟩
      · have c0 : ∀ p : Nat → Bool, (∀ z, z < 20 → p z = false) → cnt p 20 = 0 := fun p hp => (cnt_congr (p := fun _ => false) hp).trans (by decide)
        show h2 q = some (Sum.inr (5, [.ref (qA gz 3 (up2 (rT s) (rN s) a n)), .ref (qA gz 3 (up2 (rB s) (rN s) b n)), .ref rl, .int (nI (cnt (fun z => decide (¬ rL s n z = -1)) 20)), .int (rW s n), .int (rE s n), .ref rc, .int (nI (cnt (fun z => decide (¬ rC s n z = 0)) 20)), .ref rv]) : va_E)
        rw [c0 (fun z => decide (¬ rL s n z = -1)) (fun z hz => decide_eq_false (fun y => y (w3 z).1)), c0 (fun z => decide (¬ rC s n z = 0)) (fun z hz => decide_eq_false (fun y => y (w3 z).2.1)), w1, w2, show up2 (rT s) (rN s) a n = a by rw [en]; exact up2_s, show up2 (rB s) (rN s) b n = b by rw [en]; exact up2_s, k.2 3 a (by simp), k.2 3 b (by simp)]
        exact hc
      · show (0 : Int32) = b01 (rV s n z)
        rw [(w3 z).2.2]; rfl
    · have hi2 : i < rN s := by omega
      exact (iR i hi2).fr k (by simp) (by simp) (by simp) (by simp) ⟨by simp, p15 z, by simp, by simp, by simp⟩ ⟨by simp, by simp, p15 z, by simp, by simp⟩ ⟨by simp, by simp, by simp, p15 z, by simp⟩ ⟨by simp, by simp, by simp, by simp, p15 z⟩ (by simp) (by simp) (up2_n (by omega)) (up2_n (by omega)) rfl rfl rfl rfl rfl
theorem XI.basket {q ar t : Nat} {f p : Int32} (hi : XI G h g x s) (hg : ∀ b e, h b = some e → b ≠ gs G 0) (hg2 : ∀ b e, h2 b = some e → b ≠ gs G 0) (st : zSt h h2 (qA g 14 3) (qA g 15 3) ar) (al : zAL G h2 (qA g 14 3) ar ((List.range (bN s)).map (qA g 10) ++ [q])) (nq : h q = none)
    (hc : h2 q = some (.inr (3, [.int f, .ref (qA g 3 t), .int p, .long 0]))) :
    XQ G h h2 g x (s.1, s.2.1, s.2.2.1, s.2.2.2.1, (bN s + 1, up2 (bF s) (bN s) f, up2 (bT s) (bN s) t, up2 (bP s) (bN s) p, up2 (bU s) (bN s) 0)) := by
  obtain ⟨⟨iO, iA, ⟨iL0, iL1, iL2, iL3⟩, iS, iN, iT, iR, iB⟩, iV⟩ := hi
  obtain ⟨n, en⟩ : ∃ n, n = bN s := ⟨_, rfl⟩
  obtain ⟨gz, egz⟩ : ∃ gz : XGh, gz = (rx (qR g) h (nrA q (10, n) (nrA ar (15, 3) nr0)), up3 (up3 (qA g) 15 3 ar) 10 n q, qT g, qL g, qN g, qS g) := ⟨_, rfl⟩
  have k : KP (fun r => r ≠ (14, 3) ∧ r ≠ (15, 3)) (fun r => r ≠ (15, 3) ∧ r ≠ (10, n)) g gz h h2 := by
    rw [egz]
    exact KP.mk (st_keep iL3 hg st) (fun t k hu => by rw [up3_n (fun z => hu.2 (by rw [z.1, z.2])), up3_n (fun z => hu.1 (by rw [z.1, z.2]))]) (fun b e hb => ⟨rfl, rfl, rfl⟩)
  have ko : KO G g h h2 := k.ko (by simp)
  have rk : ∀ b e, h b = some e → qR gz b = qR g b := fun b e hb => (k.1 b e hb).2.1
  have rn : ∀ b, h b = none → qR gz b = nrA q (10, n) (nrA ar (15, 3) nr0) b := fun b hb => by rw [egz]; exact rx_n hb
  have ez : qA gz = up3 (up3 (qA g) 15 3 ar) 10 n q := by rw [egz]
  have e10 : qA gz 10 n = q := by rw [ez]; simp [up3]
  have e15 : qA gz 15 3 = ar := by rw [ez]; simp [up3]
  have eS : qS gz = qS g := by rw [egz]
  refine ⟨gz, ⟨⟨iO.fr k (by simp) (by simp) (by simp) (by simp) (by simp), iA.fr k (by simp) (by simp), ⟨by rw [eS]; exact iL0.fr k (by simp) (by simp) (by simp) (by simp), ?_, ?_, ?_⟩, ?_, fun a ha => ?_, fun i hi => (iT i hi).fr5 iN k (by simp) (by simp) (by simp) (by simp) (by simp) (by simp) rfl rfl, fun i hi => (iR i hi).fr k (by simp) (by simp) (by simp) (by simp) (by simp) (by simp) (by simp) (by simp) (by simp) (by simp) rfl rfl rfl rfl rfl rfl rfl, fun i hi => ?_⟩, iV.fr k iT (by simp) (by simp) rfl rfl⟩, k.fr0 (by simp)⟩
  · show XL G h2 gz 1 ((List.range (oN s)).map (qA gz 3))
    rw [List.map_congr_left (fun i hi => k.2 3 i (by simp))]
    exact iL1.fr k (by simp) (by simp) (by simp) (by simp)
  · show XL G h2 gz 2 ((List.range (rN s)).map (qA gz 6))
    rw [List.map_congr_left (fun i hi => k.2 6 i (by simp))]
    exact iL2.fr k (by simp) (by simp) (by simp) (by simp)
  · show XL G h2 gz 3 ((List.range (bN s + 1)).map (qA gz 10))
    rw [rm_snoc (f := qA g 10) (f2 := qA gz 10) (q := q) (fun i hi => k.2 10 i ⟨by simp, p15 (by omega)⟩) (by rw [← en]; exact e10)]
    refine iL3.next2 hg2 st.2 al (k.2 14 3 (by simp)) e15 rk (fun hn ⟨e, he⟩ => ?_)
    have hq : ar ≠ q := fun z => by
      obtain ⟨-, -, w⟩ := al
      rcases w with ⟨w, -⟩ | ⟨ff, w, -⟩
      · simp at w
      · rw [z, hc] at w; cases w
    exact (rn _ hn).trans ((nrA_n hq).trans nrA_s)
  · have z := iS.keep iN k eS (fun _ h => h)
    rw [← iS.2] at z; exact z
  · cases hh : h a with
    | some e => exact NF.fr iN ((rk a e hh).symm.trans ha) k ko (by simp) (by simp) (by simp) (by simp) (Nat.le_refl _) (fun _ _ => rfl)
    | none =>
      have ha2 := (rn a hh).symm.trans ha
      unfold nrA nr0 at ha2
      repeat' (split at ha2)
      all_goals cases ha2
  · have hi' : i < bN s + 1 := hi
    by_cases z : i = n
    · unfold XB1
      rw [z, e10]
      refine ⟨(rn _ nq).trans nrA_s, ?_⟩
      show h2 q = some (Sum.inr (3, [.int (up2 (bF s) (bN s) f n), .ref (qA gz 3 (up2 (bT s) (bN s) t n)), .int (up2 (bP s) (bN s) p n), .long (up2 (bU s) (bN s) 0 n)]) : va_E)
      rw [en, up2_s, up2_s, up2_s, up2_s, k.2 3 t (by simp)]
      exact hc
    · exact (iB i (by omega)).fr k (by simp) ⟨by simp, p15 z⟩ (by simp) (up2_n (by omega)) (up2_n (by omega)) (up2_n (by omega)) (up2_n (by omega))
end

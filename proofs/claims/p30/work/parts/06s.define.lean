/-! defining and amending terms -/
section
variable {G : zG} {h h2 : zH} {g : XGh} {x : Nat} {s : ZS}
def T4 : Nat × Nat → Prop := fun r => r ≠ (14, 0) ∧ r ≠ (15, 0) ∧ r ≠ (14, 1) ∧ r ≠ (15, 1)
theorem XS.ne {S : List Frm} (hS : XS g S) (h : 0 < S.length) : qS g ≠ [] := fun z => by
  have e := hS.2
  rw [z] at e
  rw [e] at h
  exact absurd h (Nat.lt_irrefl _)
theorem XW.define {q df vr ar b2 : Nat} {fv : Nat → Int64} (hi : XI G h g x s) (hw : WFs s) (hg2 : ∀ b e, h2 b = some e → b ≠ gs G 0) (h0 : 0 < (oS s).length) (hbt : top1 s = (qT g b2, qL g b2)) (rb : qR g b2 = (11, 0)) (hk : ∀ b e, h b = some e → T4 (qR g b) → h2 b = some e) (al0 : zAL G h2 (qA g 14 0) (qA g 15 0) (qS g).dropLast) (st1 : ar = qA g 15 1 ∨ h ar = none) (al1 : zAL G h2 (qA g 14 1) ar ((List.range (oN s)).map (qA g 3) ++ [q])) (nq : h q = none) (nd : h df = none) (nv : h vr = none)
    (hc : h2 q = some (.inr (6, [.int (nI (qL g b2)), .ref df, .int 1, .ref vr]))) (hd : h2 df = some (.inl (gc G 6, 20, .inr (.inr (.inr (.inr (va_up (fun _ => none) (nI 0).toNatClampNeg (some b2)))))))) (hv : h2 vr = some (cL G fv)) : ∃ g2, XW G h2 g2 x (nDefine s) ∧ XFr g g2 h h2 := by
  obtain ⟨⟨iO, iA, ⟨iL0, iL1, iL2, iL3⟩, iS, iN, iT, iR, iB⟩, iV⟩ := hi
  obtain ⟨n, en⟩ : ∃ n, n = oN s := ⟨_, rfl⟩
  obtain ⟨gz, egz⟩ : ∃ gz : XGh, gz = (rx (qR g) h (nrA q (3, n) (nrA df (4, n) (nrA vr (5, n) (nrA ar (15, 1) nr0)))), up3 (up3 (up3 (up3 (qA g) 15 1 ar) 3 n q) 4 n df) 5 n vr, qT g, qL g, qN g, (qS g).dropLast) := ⟨_, rfl⟩
  have k : KP T4 (fun r => r ≠ (15, 1) ∧ r ≠ (3, n) ∧ r ≠ (4, n) ∧ r ≠ (5, n)) g gz h h2 := by
    rw [egz]
    exact KP.mk hk (fun t k hu => by
      obtain ⟨u1, u2, u3, u4⟩ := hu
      rw [up3_n (fun z => u4 (by rw [z.1, z.2])), up3_n (fun z => u3 (by rw [z.1, z.2])), up3_n (fun z => u2 (by rw [z.1, z.2])), up3_n (fun z => u1 (by rw [z.1, z.2]))]) (fun b e hb => ⟨rfl, rfl, rfl⟩)
  have ko : KO G g h h2 := k.ko (by simp [T4])
  have rk : ∀ b e, h b = some e → qR gz b = qR g b := fun b e hb => (k.1 b e hb).2.1
  have rn : ∀ b, h b = none → qR gz b = nrA q (3, n) (nrA df (4, n) (nrA vr (5, n) (nrA ar (15, 1) nr0))) b := fun b hb => by rw [egz]; exact rx_n hb
  have ez : qA gz = up3 (up3 (up3 (up3 (qA g) 15 1 ar) 3 n q) 4 n df) 5 n vr := by rw [egz]
  have e3 : qA gz 3 n = q := by rw [ez]; simp [up3]
  have e4 : qA gz 4 n = df := by rw [ez]; simp [up3]
  have e5 : qA gz 5 n = vr := by rw [ez]; simp [up3]
  have e15 : qA gz 15 1 = ar := by rw [ez]; simp [up3]
  have eS : qS gz = (qS g).dropLast := by rw [egz]
  have l1 : df ≠ q := zne_oq hc hd
  have l2 : vr ≠ q := zne_ol hc hv
  have l3 : df ≠ vr := zne_lq hv hd
  have hn10 : oN s ≤ 10 := hw.2.2.1.1
  have tl2 : ∀ k, k < oN s → up2 (oL s) (oN s) (top1 s).2 k = oL s k := fun k hk => up2_n (by omega)
  have u5 : ∀ i, i < oN s → (fun r : Nat × Nat => r ≠ (15, 1) ∧ r ≠ (3, n) ∧ r ≠ (4, n) ∧ r ≠ (5, n)) (5, i) := fun i hi => ⟨by simp, by simp, by simp, p15 (by omega)⟩
  have u3 : ∀ i, i < oN s → (fun r : Nat × Nat => r ≠ (15, 1) ∧ r ≠ (3, n) ∧ r ≠ (4, n) ∧ r ≠ (5, n)) (3, i) := fun i hi => ⟨by simp, p15 (by omega), by simp, by simp⟩
  have u4 : ∀ i, i < oN s → (fun r : Nat × Nat => r ≠ (15, 1) ∧ r ≠ (3, n) ∧ r ≠ (4, n) ∧ r ≠ (5, n)) (4, i) := fun i hi => ⟨by simp, by simp, p15 (by omega), by simp⟩
  refine ⟨gz, ⟨iO.fr k (by simp [T4]) (by simp [T4]) (by simp) (by simp) (by simp), iA.fr k (by simp [T4]) (by simp), ⟨?_, ?_, ?_, ?_⟩, ?_, fun a ha => ?_, fun i hi => ?_, fun i hi => (iR i hi).fr k (by simp [T4]) (by simp [T4]) (by simp [T4]) (by simp [T4]) (by simp) (by simp) (by simp) (by simp) (u3 _ (hw.2.2.2.2.1.2.1 i hi).1) (u3 _ (hw.2.2.2.2.1.2.1 i hi).2.1) rfl rfl rfl rfl rfl rfl rfl, fun i hi => (iB i hi).fr k (by simp [T4]) (by simp) (u3 _ (hw.2.2.2.2.2.2.1 i hi).1) rfl rfl rfl rfl⟩, k.fr0 (by simp [T4])⟩
  · rw [eS]
    exact iL0.drop (iS.ne h0) al0 (k.2 14 0 (by simp)) (k.2 15 0 (by simp)) rk
  · show XL G h2 gz 1 ((List.range (oN s + 1)).map (qA gz 3))
    rw [rm_snoc (f := qA g 3) (f2 := qA gz 3) (q := q) (fun i hi => k.2 3 i (u3 i hi)) (by rw [← en]; exact e3)]
    refine iL1.next2 hg2 st1 al1 (k.2 14 1 (by simp)) e15 rk (fun hn ⟨e, he⟩ => ?_)
    obtain ⟨-, -, w⟩ := al1
    have m1 : ar ≠ q := fun z => by
      rcases w with ⟨w, -⟩ | ⟨ff, w, -⟩
      · simp at w
      · rw [z, hc] at w; cases w
    have m2 : ar ≠ df := fun z => by
      rcases w with ⟨w, -⟩ | ⟨ff, w, -⟩
      · simp at w
      · rw [z] at w; exact zne_qq hd w (by decide) rfl
    have m3 : ar ≠ vr := fun z => by
      rcases w with ⟨w, -⟩ | ⟨ff, w, -⟩
      · simp at w
      · rw [z] at w; exact zne_lq hv w rfl
    exact (rn _ hn).trans ((nrA_n m1).trans ((nrA_n m2).trans ((nrA_n m3).trans nrA_s)))
  · show XL G h2 gz 2 ((List.range (rN s)).map (qA gz 6))
    rw [List.map_congr_left (fun i hi => k.2 6 i (by simp))]
    exact iL2.fr k (by simp [T4]) (by simp [T4]) (by simp) (by simp)
  · show XL G h2 gz 3 ((List.range (bN s)).map (qA gz 10))
    rw [List.map_congr_left (fun i hi => k.2 10 i (by simp))]
    exact iL3.fr k (by simp [T4]) (by simp [T4]) (by simp) (by simp)
  · have z := iS.keep iN k eS (fun _ h => mem_dl h)
    rw [map_dl, ← iS.2] at z; exact z
  · cases hh : h a with
    | some e => exact NF.fr iN ((rk a e hh).symm.trans ha) k ko (by simp [T4]) (by simp [T4]) (by simp) u5 (Nat.le_succ _) tl2
    | none =>
      have ha2 := (rn a hh).symm.trans ha
      unfold nrA nr0 at ha2
      repeat' (split at ha2)
      all_goals cases ha2
  · have hi' : i < oN s + 1 := hi
    by_cases z : i = n
    · unfold XT1
      rw [z, e3, e4, e5]
      have none2 : ∀ q', oD s n q' = none := fun q' => hw.2.2.1.2.2 n q' (by omega)
      have hcnt : cnt (fun z => (up3 (oD s) (oN s) 0 (some (top1 s).1) n z).isSome) 20 = 1 := by
        rw [cnt_put (p := fun z => (oD s n z).isSome) (q := 0) (by decide) (fun z hz => by rw [up3_n (fun y => hz y.2)]) (by rw [en, up3_s]; rfl), cnt_congr (p := fun _ => false) (fun z _ => by rw [none2 z]; rfl), none2 0]; decide
      refine ⟨(rn _ nq).trans nrA_s, (rn _ nd).trans ((nrA_n l1).trans nrA_s), (rn _ nv).trans ((nrA_n l2).trans ((nrA_n l3.symm).trans nrA_s)), ?_, ⟨_, hd, fun q' hq' => ?_⟩, fv, hv⟩
      · show h2 q = some (Sum.inr (6, [.int (nI (up2 (oL s) (oN s) (top1 s).2 n)), .ref df, .int (nI (cnt (fun z => (up3 (oD s) (oN s) 0 (some (top1 s).1) n z).isSome) 20)), .ref vr]) : va_E)
        rw [hcnt, show up2 (oL s) (oN s) (top1 s).2 n = qL g b2 by rw [en, up2_s, hbt]]
        exact hc
      · rw [nI_clamp (by decide)]
        show (va_up (fun _ => none) 0 (some b2) q' = none ∧ up3 (oD s) (oN s) 0 (some (top1 s).1) n q' = none) ∨ ∃ a, va_up (fun _ => none) 0 (some b2) q' = some a ∧ qR gz a = (11, 0) ∧ up3 (oD s) (oN s) 0 (some (top1 s).1) n q' = some (qT gz a)
        by_cases y : q' = 0
        · right
          obtain ⟨c, hcb⟩ := (iN b2 rb).cell
          refine ⟨b2, by rw [y]; exact vu_s, (rk _ _ hcb).trans rb, ?_⟩
          rw [y, en, up3_s, hbt, (k.1 _ _ hcb).2.2.1]
        · exact Or.inl ⟨vu_n y, by rw [up3_n (fun w => y w.2)]; exact none2 q'⟩
    · exact (iT i (by omega)).fr5 iN k (by simp [T4]) (by simp [T4]) (by simp [T4]) (u3 i (by omega)) (u4 i (by omega)) (u5 i (by omega)) (up2_n (by omega)) (funext (fun w => up3_n (fun y => by omega)))
def T5 (t : Nat) : Nat × Nat → Prop := fun r => r ≠ (14, 0) ∧ r ≠ (15, 0) ∧ r ≠ (3, t) ∧ r ≠ (4, t)
theorem XW.amend {t q b2 : Nat} {fd : Nat → Option Nat} (hi : XI G h g x s) (h0 : 0 < (oS s).length) (ht : t < oN s) (hq : q < 20) (hbt : top1 s = (qT g b2, qL g b2)) (rb : qR g b2 = (11, 0)) (hk : ∀ b e, h b = some e → T5 t (qR g b) → h2 b = some e) (al0 : zAL G h2 (qA g 14 0) (qA g 15 0) (qS g).dropLast)
    (hc : h2 (qA g 3 t) = some (.inr (6, [.int (nI (oL s t)), .ref (qA g 4 t), .int (nI (cnt (fun z => (up3 (oD s) t q (some (top1 s).1) t z).isSome) 20)), .ref (qA g 5 t)]))) (hfd : ∀ z, z < 20 → (fd z = none ∧ oD s t z = none) ∨ ∃ a, fd z = some a ∧ qR g a = (11, 0) ∧ oD s t z = some (qT g a)) (hd : h2 (qA g 4 t) = some (.inl (gc G 6, 20, .inr (.inr (.inr (.inr (va_up fd (nI q).toNatClampNeg (some b2)))))))) : XW G h2 (qR g, qA g, qT g, qL g, qN g, (qS g).dropLast) x (s.1, (oS s).dropLast, (oN s, oL s, up3 (oD s) t q (some (top1 s).1)), s.2.2.2) ∧ XFr g (qR g, qA g, qT g, qL g, qN g, (qS g).dropLast) h h2 := by
  obtain ⟨⟨iO, iA, ⟨iL0, iL1, iL2, iL3⟩, iS, iN, iT, iR, iB⟩, iV⟩ := hi
  have k : KP (T5 t) (fun _ => True) g (qR g, qA g, qT g, qL g, qN g, (qS g).dropLast) h h2 := ⟨fun b e hb => ⟨hk b e hb, rfl, rfl, rfl, rfl⟩, fun _ _ _ => rfl⟩
  have ko : KO G g h h2 := k.ko (by simp [T5])
  refine ⟨⟨iO.fr k (by simp [T5]) (by simp [T5]) trivial (fun _ _ => trivial) (fun _ _ => trivial), iA.fr k (by simp [T5]) (fun _ _ => trivial), ⟨iL0.drop (iS.ne h0) al0 rfl rfl (fun _ _ _ => rfl), iL1.fr k (by simp [T5]) (by simp [T5]) trivial trivial, iL2.fr k (by simp [T5]) (by simp [T5]) trivial trivial, iL3.fr k (by simp [T5]) (by simp [T5]) trivial trivial⟩, ?_, fun a ha => NF.fr iN ha k ko (by simp [T5]) (by simp [T5]) (fun _ _ => trivial) (fun _ _ => trivial) (Nat.le_refl _) (fun _ _ => rfl), fun i hi => ?_, fun i hi => (iR i hi).fr k (by simp [T5]) (by simp [T5]) (by simp [T5]) (by simp [T5]) trivial trivial trivial trivial trivial trivial rfl rfl rfl rfl rfl rfl rfl, fun i hi => (iB i hi).fr k (by simp [T5]) trivial trivial rfl rfl rfl rfl⟩, k.fr0 (by simp [T5])⟩
  · have z := iS.keep iN k (L := (qS g).dropLast) rfl (fun _ h => mem_dl h)
    rw [map_dl, ← iS.2] at z; exact z
  · by_cases z : i = t
    · obtain ⟨r3, r4, r5, -, -, f5, hf5⟩ := iT i hi
      unfold XT1
      rw [z] at r3 r4 r5 hf5 ⊢
      refine ⟨r3, r4, r5, hc, ⟨_, hd, fun q' hq' => ?_⟩, f5, (k.c hf5 r5 (by simp [T5])).1⟩
      rw [nI_clamp (by omega)]
      show (va_up fd q (some b2) q' = none ∧ up3 (oD s) t q (some (top1 s).1) t q' = none) ∨ ∃ a, va_up fd q (some b2) q' = some a ∧ qR g a = (11, 0) ∧ up3 (oD s) t q (some (top1 s).1) t q' = some (qT g a)
      by_cases y : q' = q
      · right
        refine ⟨b2, by rw [y]; exact vu_s, rb, ?_⟩
        rw [y, up3_s, hbt]
      · rw [vu_n y, up3_n (fun w => y w.2)]; exact hfd q' hq'
    · exact (iT i hi).fr5 iN k (by simp [T5, z]) (by simp [T5, z]) (by simp [T5]) trivial trivial trivial rfl (funext (fun w => up3_n (fun y => z y.1)))
end

/-! calls that change what there is -/
theorem cnt_congr {p p2 : Nat → Bool} {n : Nat} (h : ∀ z, z < n → p2 z = p z) : cnt p2 n = cnt p n := by
  induction n with
  | zero => rfl
  | succ n ih =>
    show cnt p2 n + (if p2 n = true then 1 else 0) = cnt p n + (if p n = true then 1 else 0)
    rw [ih (fun z hz => h z (by omega)), h n (by omega)]
theorem cnt_put {p p2 : Nat → Bool} {q n : Nat} (hq : q < n) (h1 : ∀ z, z ≠ q → p2 z = p z) (h2 : p2 q = true) : cnt p2 n = cnt p n + (if p q = true then 0 else 1) := by
  induction n with
  | zero => omega
  | succ n ih =>
    show cnt p2 n + (if p2 n = true then 1 else 0) = cnt p n + (if p n = true then 1 else 0) + _
    by_cases z : q = n
    · subst z
      rw [cnt_congr (fun z hz => h1 z (by omega)), h2, if_pos rfl]
      by_cases y : p q = true
      · rw [if_pos y, if_pos y]
      · rw [if_neg y, if_neg y]
    · rw [ih (by omega), h1 n (fun y => z y.symm)]; omega
section
variable {G : zG} {h h2 : zH} {g : XGh} {x : Nat} {s : ZS}
theorem kp_same {T : Nat × Nat → Prop} (hk : ∀ b e, h b = some e → T (qR g b) → h2 b = some e) : KP T (fun _ => True) g g h h2 := ⟨fun b e hb => ⟨hk b e hb, rfl, rfl, rfl, rfl⟩, fun _ _ _ => rfl⟩
def Trat (j : Nat) : Nat × Nat → Prop := fun r => r ≠ (6, j) ∧ r ≠ (7, j) ∧ r ≠ (8, j) ∧ r ≠ (9, j)
theorem rat_kp {j : Nat} (k : zKp (fun b => b = qA g 6 j ∨ b = qA g 7 j ∨ b = qA g 8 j ∨ b = qA g 9 j) h h2) (r6 : qR g (qA g 6 j) = (6, j)) (r7 : qR g (qA g 7 j) = (7, j)) (r8 : qR g (qA g 8 j) = (8, j)) (r9 : qR g (qA g 9 j) = (9, j)) : ∀ b e, h b = some e → Trat j (qR g b) → h2 b = some e := fun b e hb hr => k b e (fun z => by
  rcases z with z | z | z | z
  · exact hr.1 (by rw [z]; exact r6)
  · exact hr.2.1 (by rw [z]; exact r7)
  · exact hr.2.2.1 (by rw [z]; exact r8)
  · exact hr.2.2.2 (by rw [z]; exact r9)) hb
theorem XI.ratio {j : Nat} {R2 : ZR} (hi : XI G h g x s) (hk : ∀ b e, h b = some e → Trat j (qR g b) → h2 b = some e) (h1 : R2.1 = rN s) (hT : R2.2.1 = rT s) (hB : R2.2.2.1 = rB s) (hL : ∀ i, i ≠ j → R2.2.2.2.1 i = rL s i) (hW : ∀ i, i ≠ j → R2.2.2.2.2.1 i = rW s i) (hE : ∀ i, i ≠ j → R2.2.2.2.2.2.1 i = rE s i) (hC : ∀ i, i ≠ j → R2.2.2.2.2.2.2.1 i = rC s i) (hV : ∀ i, i ≠ j → R2.2.2.2.2.2.2.2 i = rV s i) (hx : XR1 G h2 g (s.1, s.2.1, s.2.2.1, R2, s.2.2.2.2) j) : XQ G h h2 g x (s.1, s.2.1, s.2.2.1, R2, s.2.2.2.2) := by
  obtain ⟨⟨iO, iA, ⟨iL0, iL1, iL2, iL3⟩, iS, iN, iT, iR, iB⟩, iV⟩ := hi
  have k := kp_same hk
  have ko : KO G g h h2 := k.ko (by simp [Trat])
  refine ⟨g, ⟨⟨iO.fr k (by simp [Trat]) (by simp [Trat]) trivial (fun _ _ => trivial) (fun _ _ => trivial), iA.fr k (by simp [Trat]) (fun _ _ => trivial), ⟨iL0.fr k (by simp [Trat]) (by simp [Trat]) trivial trivial, iL1.fr k (by simp [Trat]) (by simp [Trat]) trivial trivial, ?_, iL3.fr k (by simp [Trat]) (by simp [Trat]) trivial trivial⟩, iS, fun a ha => NF.fr iN ha k ko (by simp [Trat]) (by simp [Trat]) (fun _ _ => trivial) (fun _ _ => trivial) (Nat.le_refl _) (fun _ _ => rfl), fun i hi => (iT i hi).fr5 iN k (by simp [Trat]) (by simp [Trat]) (by simp [Trat]) trivial trivial trivial rfl rfl, fun i hi => ?_, fun i hi => (iB i hi).fr k (by simp [Trat]) trivial trivial rfl rfl rfl rfl⟩, iV.fr k iT (by simp [Trat]) (fun _ _ => trivial) rfl rfl⟩, k.fr0 (by simp [Trat])⟩
  · show XL G h2 g 2 ((List.range R2.1).map (qA g 6))
    rw [h1]
    exact iL2.fr k (by simp [Trat]) (by simp [Trat]) trivial trivial
  · by_cases z : i = j
    · subst z; exact hx
    · have hi' : i < rN s := by rw [← h1]; exact hi
      have n (a : Nat) : Trat j (a, i) := ⟨by simp [z], by simp [z], by simp [z], by simp [z]⟩
      exact (iR i hi').fr k (n _) (n _) (n _) (n _) trivial trivial trivial trivial trivial trivial (congrFun hT i) (congrFun hB i) (hL i z) (hC i z) (hV i z) (hW i z) (hE i z)
theorem XI.bask {j : Nat} {B2 : ZB} (hi : XI G h g x s) (hk : ∀ b e, h b = some e → qR g b ≠ (10, j) → h2 b = some e) (h1 : B2.1 = bN s) (hF : B2.2.1 = bF s) (hT : B2.2.2.1 = bT s) (hP : B2.2.2.2.1 = bP s) (hU : ∀ i, i ≠ j → B2.2.2.2.2 i = bU s i) (hx : XB1 G h2 g (s.1, s.2.1, s.2.2.1, s.2.2.2.1, B2) j) : XQ G h h2 g x (s.1, s.2.1, s.2.2.1, s.2.2.2.1, B2) := by
  obtain ⟨⟨iO, iA, ⟨iL0, iL1, iL2, iL3⟩, iS, iN, iT, iR, iB⟩, iV⟩ := hi
  have k : KP (fun r => r ≠ (10, j)) (fun _ => True) g g h h2 := kp_same hk
  have ko : KO G g h h2 := k.ko (by simp)
  refine ⟨g, ⟨⟨iO.fr k (by simp) (by simp) trivial (fun _ _ => trivial) (fun _ _ => trivial), iA.fr k (by simp) (fun _ _ => trivial), ⟨iL0.fr k (by simp) (by simp) trivial trivial, iL1.fr k (by simp) (by simp) trivial trivial, iL2.fr k (by simp) (by simp) trivial trivial, ?_⟩, iS, fun a ha => NF.fr iN ha k ko (by simp) (by simp) (fun _ _ => trivial) (fun _ _ => trivial) (Nat.le_refl _) (fun _ _ => rfl), fun i hi => (iT i hi).fr5 iN k (by simp) (by simp) (by simp) trivial trivial trivial rfl rfl, fun i hi => (iR i hi).fr k (by simp) (by simp) (by simp) (by simp) trivial trivial trivial trivial trivial trivial rfl rfl rfl rfl rfl rfl rfl, fun i hi => ?_⟩, iV.fr k iT (by simp) (fun _ _ => trivial) rfl rfl⟩, k.fr0 (by simp)⟩
  · show XL G h2 g 3 ((List.range B2.1).map (qA g 10))
    rw [h1]
    exact iL3.fr k (by simp) (by simp) trivial trivial
  · by_cases z : i = j
    · subst z; exact hx
    · have hi' : i < bN s := by rw [← h1]; exact hi
      exact (iB i hi').fr k (by simp [z]) trivial trivial (congrFun hF i) (congrFun hT i) (congrFun hP i) (hU i z)
theorem XW.amount {a : Nat} {A2 : Nat → Nat → Int32} (hi : XI G h g x s) (hk : ∀ b e, h b = some e → qR g b ≠ (2, a) → h2 b = some e) (hA : ∀ i, i ≠ a → A2 i = oA s i) (hx : ∃ f, h2 (qA g 2 a) = some (cL G f) ∧ ∀ q, q < 20 → f q = (A2 a q).toInt64) : XW G h2 g x (A2, s.2) ∧ XFr g g h h2 := by
  obtain ⟨⟨iO, iA, ⟨iL0, iL1, iL2, iL3⟩, iS, iN, iT, iR, iB⟩, iV⟩ := hi
  have k : KP (fun r => r ≠ (2, a)) (fun _ => True) g g h h2 := kp_same hk
  have ko : KO G g h h2 := k.ko (by simp)
  refine ⟨⟨iO.fr k (by simp) (by simp) trivial (fun _ _ => trivial) (fun _ _ => trivial), fun i hi => ?_, ⟨iL0.fr k (by simp) (by simp) trivial trivial, iL1.fr k (by simp) (by simp) trivial trivial, iL2.fr k (by simp) (by simp) trivial trivial, iL3.fr k (by simp) (by simp) trivial trivial⟩, iS, fun a ha => NF.fr iN ha k ko (by simp) (by simp) (fun _ _ => trivial) (fun _ _ => trivial) (Nat.le_refl _) (fun _ _ => rfl), fun i hi => (iT i hi).fr5 iN k (by simp) (by simp) (by simp) trivial trivial trivial rfl rfl, fun i hi => (iR i hi).fr k (by simp) (by simp) (by simp) (by simp) trivial trivial trivial trivial trivial trivial rfl rfl rfl rfl rfl rfl rfl, fun i hi => (iB i hi).fr k (by simp) trivial trivial rfl rfl rfl rfl⟩, k.fr0 (by simp)⟩
  obtain ⟨r, f, hf, hq⟩ := iA i hi
  refine ⟨r, ?_⟩
  by_cases z : i = a
  · subst z; exact hx
  · refine ⟨f, (k.c hf r (by simp [z])).1, fun q hq' => ?_⟩
    rw [hq q hq']
    show (oA s i q).toInt64 = (A2 i q).toInt64
    rw [hA i z]
end

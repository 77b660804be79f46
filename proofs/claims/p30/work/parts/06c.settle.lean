/-! settling: own rows of nodes are as they were, or right -/
def SF (G : zG) (g : XGh) (A V : Nat → Nat → Int64) (E : Nat × Nat → Prop) (h h2 : zH) : Prop :=
  (∀ b e, h b = some e → (qR g b).1 ≠ 12 → ¬ E (qR g b) → h2 b = some e) ∧
  ∀ b f, h b = some (cL G f) → (qR g b).1 = 12 → ∃ f2, h2 b = some (cL G f2) ∧ (f2 = f ∨ (2 ≤ (qT g (qR g b).2).length ∧ ∀ q, q < 20 → f2 q = rowOf A V (qT g (qR g b).2) q))
def E0 : Nat × Nat → Prop := fun _ => False
def E5 (i : Nat) : Nat × Nat → Prop := fun r => r = (5, i)
def E55 : Nat × Nat → Prop := fun r => r.1 = 5
def SC (G : zG) (h : zH) (g : XGh) (N : Nat) (tl : Nat → Nat) (A V : Nat → Nat → Int64) (i : Nat) : Prop := XA G h g A ∧ (∀ k, k < i → qR g (qA g 5 k) = (5, k) ∧ ∃ f, h (qA g 5 k) = some (cL G f) ∧ ∀ q, q < 20 → f q = V k q) ∧ XN G h g N tl
def RC (G : zG) (h : zH) (g : XGh) (A V : Nat → Nat → Int64) (a : Nat) : Prop := ∃ f, h (qN g a 0) = some (cL G f) ∧ ∀ q, q < 20 → f q = rowOf A V (qT g a) q
section
variable {G : zG} {g : XGh} {A V : Nat → Nat → Int64} {E : Nat × Nat → Prop} {h h1 h2 h3 : zH} {N i : Nat} {tl : Nat → Nat}
theorem SF.rf : SF G g A V E h h := ⟨fun _ _ hb _ _ => hb, fun b f hb _ => ⟨f, hb, Or.inl rfl⟩⟩
theorem SF.trans (k1 : SF G g A V E h h1) (k2 : SF G g A V E h1 h2) : SF G g A V E h h2 := by
  refine ⟨fun b e hb hr hE => k2.1 b e (k1.1 b e hb hr hE) hr hE, fun b f hb hr => ?_⟩
  obtain ⟨f1, e1, c1⟩ := k1.2 b f hb hr
  obtain ⟨f2, e2, c2⟩ := k2.2 b f1 e1 hr
  refine ⟨f2, e2, ?_⟩
  rcases c2 with rfl | c2
  · exact c1
  · exact Or.inr c2
theorem SF.weak {E2 : Nat × Nat → Prop} (k : SF G g A V E h h2) (hE : ∀ r, E r → E2 r) : SF G g A V E2 h h2 := ⟨fun b e hb hr h2 => k.1 b e hb hr (fun z => h2 (hE _ z)), k.2⟩
theorem SF.cell (k : SF G g A V E h h2) {b : Nat} {e : va_E} {r : Nat × Nat} (hb : h b = some e) (hr : qR g b = r) (h12 : r.1 ≠ 12) (hE : ¬ E r) : h2 b = some e := k.1 b e hb (by rw [hr]; exact h12) (by rw [hr]; exact hE)
theorem SF.kp (k : SF G g A V E h h2) : KP (fun r => r.1 ≠ 12 ∧ ¬ E r) (fun _ => True) g g h h2 := ⟨fun b e hb => ⟨fun t => k.1 b e hb t.1 t.2, rfl, rfl, rfl, rfl⟩, fun _ _ _ => rfl⟩
theorem SF.ko (k : SF G g A V E h h2) : KO G g h h2 := fun b z f hb hr => by
  obtain ⟨f2, e2, c2⟩ := k.2 b f hb (by rw [hr])
  refine ⟨f2, e2, fun hl => ?_⟩
  rcases c2 with c2 | ⟨c2, -⟩
  · exact c2
  · rw [hr] at c2
    have c3 : 2 ≤ (qT g z).length := c2
    omega
theorem SF.xn (k : SF G g A V E h h2) (x : XN G h g N tl) (h1 : ¬ E (11, 0)) (h13 : ¬ E (13, 0)) : XN G h2 g N tl := fun a ha => NF.fr x ha k.kp k.ko ⟨by decide, h1⟩ ⟨by decide, h13⟩ (fun _ _ => trivial) (fun _ _ => trivial) (Nat.le_refl _) (fun _ _ => rfl)
theorem SF.xa (k : SF G g A V E h h2) {B : Nat → Nat → Int64} (x : XA G h g B) (h1 : ∀ i, ¬ E (2, i)) : XA G h2 g B := x.fr k.kp (fun i _ => ⟨by simp, h1 i⟩) (fun _ _ => trivial)
theorem SC.sf (x : SC G h g N tl A V i) (k : SF G g A V E h h2) (h1 : ¬ E (11, 0)) (h13 : ¬ E (13, 0)) (h2' : ∀ i, ¬ E (2, i)) (h5 : ∀ k, k < i → ¬ E (5, k)) : SC G h2 g N tl A V i := by
  refine ⟨k.xa x.1 h2', fun j hj => ?_, k.xn x.2.2 h1 h13⟩
  obtain ⟨r, f, hf, hq⟩ := x.2.1 j hj
  exact ⟨r, f, k.cell hf r (by simp) (h5 j hj), hq⟩
/-- what a node's row is -/
theorem row_role (x : SC G h g N tl A V i) {a : Nat} (ha : qR g a = (11, 0)) (hg : gtk (qT g a) ≤ i) : (∃ k, k < 6 ∧ qR g (qN g a 0) = (2, k)) ∨ (∃ k, k < i ∧ qR g (qN g a 0) = (5, k)) ∨ qR g (qN g a 0) = (12, a) := by
  obtain ⟨l1, l2, l3, l4, l5, kd, p, c1, c2, hc, hk⟩ := x.2.2 a ha
  rcases hk with ⟨-, -, -, -, hk⟩ | ⟨r1, -⟩
  · rcases hk with ⟨j, i1, i2, i3, i4⟩ | ⟨v, i1, i2, i3, i4, -⟩ | ⟨j, i1, i2, i3, i4⟩
    · exact Or.inl ⟨j, i1, by rw [i4]; exact (x.1 j i1).1⟩
    · exact Or.inr (Or.inr i4)
    · have hj : j < i := by rw [i2] at hg; simp [gtk] at hg; omega
      exact Or.inr (Or.inl ⟨j, hj, by rw [i4]; exact (x.2.1 j hj).1⟩)
  · exact Or.inr (Or.inr r1)
theorem row_ne (x : SC G h g N tl A V i) {a b : Nat} (hb : qR g b = (11, 0)) (hg : gtk (qT g b) ≤ i) (hba : b ≠ a) (hr : qR g (qN g a 0) = (12, a)) : qN g b 0 ≠ qN g a 0 := fun e => by
  rcases row_role x hb hg with ⟨k, -, q⟩ | ⟨k, -, q⟩ | q
  · rw [e, hr] at q; cases q
  · rw [e, hr] at q; cases q
  · rw [e, hr] at q; cases q; exact hba rfl
theorem RC.sf (x : SC G h g N tl A V i) {a : Nat} (ha : qR g a = (11, 0)) (hg : gtk (qT g a) ≤ i) (r : RC G h g A V a) (k : SF G g A V E h h2) (h2' : ∀ i, ¬ E (2, i)) (h5 : ∀ k, k < i → ¬ E (5, k)) : RC G h2 g A V a := by
  obtain ⟨f, hf, hq⟩ := r
  rcases row_role x ha hg with ⟨j, -, q⟩ | ⟨j, hj, q⟩ | q
  · exact ⟨f, k.cell hf q (by simp) (h2' j), hq⟩
  · exact ⟨f, k.cell hf q (by simp) (h5 j hj), hq⟩
  · obtain ⟨f2, e2, c2⟩ := k.2 _ f hf (by rw [q])
    refine ⟨f2, e2, ?_⟩
    rcases c2 with rfl | ⟨-, c2⟩
    · exact hq
    · rw [q] at c2; exact c2
theorem RC.leaf (x : SC G h g N tl A V i) {a kd p : Nat} {c1 c2 : Value} (hg : gtk (qT g a) ≤ i) (k : nkLeaf G h g N tl a kd p c1 c2) : RC G h g A V a := by
  obtain ⟨-, -, -, -, hk⟩ := k
  rcases hk with ⟨j, i1, i2, i3, i4⟩ | ⟨v, i1, i2, i3, i4, f, hf, hq⟩ | ⟨j, i1, i2, i3, i4⟩
  · obtain ⟨-, f, hf, hq⟩ := x.1 j i1
    refine ⟨f, by rw [i4]; exact hf, ?_⟩
    rw [i2]; exact hq
  · refine ⟨f, hf, ?_⟩
    rw [i2]; exact hq
  · have hj : j < i := by rw [i2] at hg; simp [gtk] at hg; omega
    obtain ⟨-, f, hf, hq⟩ := x.2.1 j hj
    refine ⟨f, by rw [i4]; exact hf, ?_⟩
    rw [i2]; exact hq
/-- a node's own row is written -/
theorem SF.row (k : SF G g A V E h h2) {a : Nat} {f0 f3 : Nat → Int64} (h0 : h (qN g a 0) = some (cL G f0)) (hr : qR g (qN g a 0) = (12, a)) (hl : 2 ≤ (qT g a).length) (h3r : h3 (qN g a 0) = some (cL G f3)) (h3b : ∀ b, b ≠ qN g a 0 → h3 b = h2 b) (hq : ∀ q, q < 20 → f3 q = rowOf A V (qT g a) q) : SF G g A V E h h3 := by
  refine ⟨fun b e hb h12 hE => ?_, fun b f hb h12 => ?_⟩
  · rw [h3b b (fun z => by rw [z, hr] at h12; exact h12 rfl)]; exact k.1 b e hb h12 hE
  · by_cases z : b = qN g a 0
    · subst z
      refine ⟨f3, h3r, Or.inr ?_⟩
      rw [hr]; exact ⟨hl, hq⟩
    · rw [h3b b z]; exact k.2 b f hb h12
end

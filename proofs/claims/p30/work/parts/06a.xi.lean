/-! THE CLASS: ghosts (roles of cells, addresses, tokens and levels of nodes, their references, the stack), nodes, what the heap holds -/
abbrev XGh : Type := (Nat → Nat × Nat) × (Nat → Nat → Nat) × (Nat → List Tok) × (Nat → Nat) × (Nat → Nat → Nat) × List Nat
abbrev qR (g : XGh) : Nat → Nat × Nat := g.1
abbrev qA (g : XGh) : Nat → Nat → Nat := g.2.1
abbrev qT (g : XGh) : Nat → List Tok := g.2.2.1
abbrev qL (g : XGh) : Nat → Nat := g.2.2.2.1
abbrev qN (g : XGh) : Nat → Nat → Nat := g.2.2.2.2.1
abbrev qS (g : XGh) : List Nat := g.2.2.2.2.2
abbrev cL (G : zG) (f : Nat → Int64) : va_E := .inl (gc G 1, 20, .inr (.inl f))
def xTx (G : zG) (h : zH) (ro : Nat → Nat × Nat) (a b : Nat) (t : List Nat) : Prop := (∃ f, h a = some (.inr (0, [.ref b, .int 0, .int 0, .int 0])) ∧ h b = some (.inl (gc G 2, t.length, .inl f)) ∧ tbs t f ∧ asc t ∧ sb_Fit f) ∧ ro a = (13, 0) ∧ ro b = (13, 0)
def nkLeaf (G : zG) (h : zH) (g : XGh) (N : Nat) (tl : Nat → Nat) (a kd p : Nat) (c1 c2 : Value) : Prop := kd = 4 ∧ p = 0 ∧ c1 = .null ∧ c2 = .null ∧
  ((∃ i, i < 6 ∧ qT g a = [(4, i)] ∧ qL g a = 1 ∧ qN g a 0 = qA g 2 i) ∨
   (∃ v, v ≤ 1000000 ∧ qT g a = [(5, v)] ∧ qL g a = 1 ∧ qR g (qN g a 0) = (12, a) ∧ ∃ f, h (qN g a 0) = some (cL G f) ∧ ∀ q, q < 20 → f q = lN64 v) ∨
   (∃ k, k < N ∧ qT g a = [(6, k)] ∧ qL g a = tl k + 1 ∧ qN g a 0 = qA g 5 k))
def nkMade (G : zG) (h : zH) (g : XGh) (a kd p : Nat) (c1 c2 : Value) : Prop := qR g (qN g a 0) = (12, a) ∧ (∃ f, h (qN g a 0) = some (cL G f)) ∧ c1 = .ref (qN g a 3) ∧ qR g (qN g a 3) = (11, 0) ∧
  ((kd < 4 ∧ p = 0 ∧ c2 = .ref (qN g a 4) ∧ qR g (qN g a 4) = (11, 0) ∧ qT g a = qT g (qN g a 3) ++ qT g (qN g a 4) ++ [(kd, 0)] ∧ qL g a = 1 + max (qL g (qN g a 3)) (qL g (qN g a 4))) ∨
   (kd = 5 ∧ p ≤ 100 ∧ c2 = .null ∧ qT g a = qT g (qN g a 3) ++ [(7, p)] ∧ qL g a = qL g (qN g a 3) + 1) ∨
   (kd = 6 ∧ p = 0 ∧ c2 = .null ∧ qT g a = qT g (qN g a 3) ++ [(8, 0)] ∧ qL g a = qL g (qN g a 3) + 1))
abbrev cF (g : XGh) (a kd p : Nat) (c1 c2 : Value) : va_E := .inr (4, [.int (nI kd), .int (nI p), c1, c2, .int (nI (qL g a)), .int (gI (gtk (qT g a))), .ref (qN g a 1), .ref (qN g a 0)])
def NF (G : zG) (h : zH) (g : XGh) (N : Nat) (tl : Nat → Nat) (a : Nat) : Prop := 1 ≤ qL g a ∧ qL g a ≤ 6 ∧ WL tl (qL g a) (qT g a) ∧ gtk (qT g a) ≤ N ∧ xTx G h (qR g) (qN g a 1) (qN g a 2) (txtOf (qT g a)) ∧ ∃ kd p c1 c2, h a = some (cF g a kd p c1 c2) ∧ (nkLeaf G h g N tl a kd p c1 c2 ∨ nkMade G h g a kd p c1 c2)
def XN (G : zG) (h : zH) (g : XGh) (N : Nat) (tl : Nat → Nat) : Prop := ∀ a, qR g a = (11, 0) → NF G h g N tl a
def XO (G : zG) (h : zH) (g : XGh) (x : Nat) : Prop := h x = some (.inr (7, [.ref (qA g 1 0), .ref (qA g 14 0), .ref (qA g 14 1), .ref (qA g 14 2), .ref (qA g 14 3)])) ∧ qR g x = (1, 1) ∧ qR g (qA g 1 0) = (1, 0) ∧ ∃ f, h (qA g 1 0) = some (.inl (gc G 7, 6, .inr (.inr (.inr (.inr f))))) ∧ ∀ i, i < 6 → f i = some (qA g 2 i)
def XA (G : zG) (h : zH) (g : XGh) (A : Nat → Nat → Int64) : Prop := ∀ i, i < 6 → qR g (qA g 2 i) = (2, i) ∧ ∃ f, h (qA g 2 i) = some (cL G f) ∧ ∀ q, q < 20 → f q = A i q
def XL (G : zG) (h : zH) (g : XGh) (k : Nat) (L : List Nat) : Prop := zAL G h (qA g 14 k) (qA g 15 k) L ∧ qR g (qA g 14 k) = (14, k) ∧ (qR g (qA g 15 k) = (15, k) ∨ (L = [] ∧ qA g 15 k = gs G 0))
abbrev isD (s : ZS) (i z : Nat) : Bool := (oD s i z).isSome
def XT1 (G : zG) (h : zH) (g : XGh) (s : ZS) (i : Nat) : Prop := qR g (qA g 3 i) = (3, i) ∧ qR g (qA g 4 i) = (4, i) ∧ qR g (qA g 5 i) = (5, i) ∧ h (qA g 3 i) = some (.inr (6, [.int (nI (oL s i)), .ref (qA g 4 i), .int (nI (cnt (fun z => (oD s i z).isSome) 20)), .ref (qA g 5 i)])) ∧
  (∃ f, h (qA g 4 i) = some (.inl (gc G 6, 20, .inr (.inr (.inr (.inr f))))) ∧ ∀ q, q < 20 → (f q = none ∧ oD s i q = none) ∨ ∃ a, f q = some a ∧ qR g a = (11, 0) ∧ oD s i q = some (qT g a)) ∧ ∃ f, h (qA g 5 i) = some (cL G f)
abbrev hasL (s : ZS) (i z : Nat) : Bool := decide (¬ rL s i z = -1)
abbrev hasC (s : ZS) (i z : Nat) : Bool := decide (¬ rC s i z = 0)
def XR1 (G : zG) (h : zH) (g : XGh) (s : ZS) (i : Nat) : Prop := qR g (qA g 6 i) = (6, i) ∧ qR g (qA g 7 i) = (7, i) ∧ qR g (qA g 8 i) = (8, i) ∧ qR g (qA g 9 i) = (9, i) ∧
  h (qA g 6 i) = some (.inr (5, [.ref (qA g 3 (rT s i)), .ref (qA g 3 (rB s i)), .ref (qA g 7 i), .int (nI (cnt (fun z => decide (¬ rL s i z = -1)) 20)), .int (rW s i), .int (rE s i), .ref (qA g 8 i), .int (nI (cnt (fun z => decide (¬ rC s i z = 0)) 20)), .ref (qA g 9 i)])) ∧
  (∃ f, h (qA g 7 i) = some (.inl (gc G 0, 20, .inl f)) ∧ ∀ q, q < 20 → f q = rL s i q) ∧ (∃ f, h (qA g 8 i) = some (.inl (gc G 0, 20, .inl f)) ∧ ∀ q, q < 20 → f q = rC s i q) ∧ ∃ f, h (qA g 9 i) = some (.inl (gc G 4, 20, .inl f)) ∧ ∀ q, q < 20 → f q = b01 (rV s i q)
def XB1 (G : zG) (h : zH) (g : XGh) (s : ZS) (i : Nat) : Prop := qR g (qA g 10 i) = (10, i) ∧ h (qA g 10 i) = some (.inr (3, [.int (bF s i), .ref (qA g 3 (bT s i)), .int (bP s i), .long (bU s i)]))
def XS (g : XGh) (S : List Frm) : Prop := (∀ a ∈ qS g, qR g a = (11, 0)) ∧ S = (qS g).map (fun a => (qT g a, qL g a))
def XW (G : zG) (h : zH) (g : XGh) (x : Nat) (s : ZS) : Prop := XO G h g x ∧ XA G h g (oAL s) ∧ (XL G h g 0 (qS g) ∧ XL G h g 1 ((List.range (oN s)).map (qA g 3)) ∧ XL G h g 2 ((List.range (rN s)).map (qA g 6)) ∧ XL G h g 3 ((List.range (bN s)).map (qA g 10))) ∧ XS g (oS s) ∧ XN G h g (oN s) (oL s) ∧ (∀ i, i < oN s → XT1 G h g s i) ∧ (∀ i, i < rN s → XR1 G h g s i) ∧ ∀ i, i < bN s → XB1 G h g s i
def XV (G : zG) (h : zH) (g : XGh) (s : ZS) : Prop := ∀ i, i < oN s → ∃ f, h (qA g 5 i) = some (cL G f) ∧ ∀ q, q < 20 → f q = oV s i q
def XI (G : zG) (h : zH) (g : XGh) (x : Nat) (s : ZS) : Prop := XW G h g x s ∧ XV G h g s
/-! frames: T: roles whose cells are as they were; U: addresses that are as they were -/
def KP (T U : Nat × Nat → Prop) (g g2 : XGh) (h h2 : zH) : Prop := (∀ b e, h b = some e → (T (qR g b) → h2 b = some e) ∧ qR g2 b = qR g b ∧ qT g2 b = qT g b ∧ qL g2 b = qL g b ∧ qN g2 b = qN g b) ∧ ∀ t k, U (t, k) → qA g2 t k = qA g t k
/-- own rows of nodes may be others, but those of numbers -/
def KO (G : zG) (g : XGh) (h h2 : zH) : Prop := ∀ b z f, h b = some (cL G f) → qR g b = (12, z) → ∃ f2, h2 b = some (cL G f2) ∧ ((qT g z).length = 1 → f2 = f)
section
variable {G : zG} {h h2 : zH} {g g2 : XGh} {T U : Nat × Nat → Prop} {x : Nat} {s s2 : ZS}
theorem KP.c (k : KP T U g g2 h h2) {b : Nat} {e : va_E} {r : Nat × Nat} (hb : h b = some e) (hr : qR g b = r) (hT : T r) : h2 b = some e ∧ qR g2 b = r := ⟨(k.1 b e hb).1 (by rw [hr]; exact hT), (k.1 b e hb).2.1.trans hr⟩
theorem KP.ko (k : KP T U g g2 h h2) (hT : ∀ z, T (12, z)) : KO G g h h2 := fun b z f hb hr => ⟨f, (k.c hb hr (hT z)).1, fun _ => rfl⟩
theorem xTx.fr {a b : Nat} {t : List Nat} (x : xTx G h (qR g) a b t) (k : KP T U g g2 h h2) (hT : T (13, 0)) : xTx G h2 (qR g2) a b t := by
  obtain ⟨⟨f, h1, h3, h4⟩, r1, r2⟩ := x
  exact ⟨⟨f, (k.c h1 r1 hT).1, (k.c h3 r2 hT).1, h4⟩, (k.c h1 r1 hT).2, (k.c h3 r2 hT).2⟩
theorem NF.cell {N : Nat} {tl : Nat → Nat} {a : Nat} (x : NF G h g N tl a) : ∃ e, h a = some e := by
  obtain ⟨-, -, -, -, -, kd, p, c1, c2, hc, -⟩ := x
  exact ⟨_, hc⟩
theorem NF.fr {N N2 : Nat} {tl tl2 : Nat → Nat} {a : Nat} (x : XN G h g N tl) (ha : qR g a = (11, 0)) (k : KP T U g g2 h h2) (ko : KO G g h h2) (hT1 : T (11, 0)) (hT2 : T (13, 0)) (hU2 : ∀ i, i < 6 → U (2, i)) (hU5 : ∀ i, i < N → U (5, i)) (hN : N ≤ N2) (htl : ∀ k, k < N → tl2 k = tl k) : NF G h2 g2 N2 tl2 a := by
  obtain ⟨l1, l2, l3, l4, l5, kd, p, c1, c2, hc, hk⟩ := x a ha
  obtain ⟨kr, kt, kl, kn⟩ := (k.1 a _ hc).2
  have hc2 := (k.c hc ha hT1).1
  unfold NF nkLeaf nkMade cF
  unfold nkLeaf nkMade at hk
  unfold cF at hc2
  rw [kt, kl, kn]
  refine ⟨l1, l2, l3.tl l4 htl, by omega, l5.fr k hT2, kd, p, c1, c2, hc2, ?_⟩
  rcases hk with ⟨e1, e2, e3, e4, hk⟩ | ⟨r1, ⟨f, hf⟩, e1, r2, hk⟩
  · refine Or.inl ⟨e1, e2, e3, e4, ?_⟩
    rcases hk with ⟨i, i1, i2, i3, i4⟩ | ⟨v, i1, i2, i3, i4, f, hf, i5⟩ | ⟨j, i1, i2, i3, i4⟩
    · exact Or.inl ⟨i, i1, i2, i3, by rw [k.2 _ _ (hU2 i i1)]; exact i4⟩
    · obtain ⟨f2, hf2, e⟩ := ko _ _ _ hf i4
      have e := e (by rw [i2]; rfl)
      subst e
      exact Or.inr (Or.inl ⟨v, i1, i2, i3, (k.1 _ _ hf).2.1.trans i4, f2, hf2, i5⟩)
    · exact Or.inr (Or.inr ⟨j, by omega, i2, by rw [htl j i1]; exact i3, by rw [k.2 _ _ (hU5 j i1)]; exact i4⟩)
  · obtain ⟨e3, hc3⟩ := (x _ r2).cell
    obtain ⟨kr3, kt3, kl3, kn3⟩ := (k.1 _ _ hc3).2
    obtain ⟨f2, hf2, -⟩ := ko _ _ _ hf r1
    refine Or.inr ⟨(k.1 _ _ hf).2.1.trans r1, ⟨f2, hf2⟩, e1, kr3.trans r2, ?_⟩
    rcases hk with ⟨i1, i2, i3, i4, i5, i6⟩ | ⟨i1, i2, i3, i4, i5⟩ | ⟨i1, i2, i3, i4, i5⟩
    · obtain ⟨e4, hc4⟩ := (x _ i4).cell
      obtain ⟨kr4, kt4, kl4, kn4⟩ := (k.1 _ _ hc4).2
      exact Or.inl ⟨i1, i2, i3, kr4.trans i4, by rw [kt3, kt4]; exact i5, by rw [kl3, kl4]; exact i6⟩
    · exact Or.inr (Or.inl ⟨i1, i2, i3, by rw [kt3]; exact i4, by rw [kl3]; exact i5⟩)
    · exact Or.inr (Or.inr ⟨i1, i2, i3, by rw [kt3]; exact i4, by rw [kl3]; exact i5⟩)
theorem XO.fr (x0 : XO G h g x) (k : KP T U g g2 h h2) (t0 : T (1, 0)) (t1 : T (1, 1)) (u0 : U (1, 0)) (u14 : ∀ j, j < 4 → U (14, j)) (u2 : ∀ i, i < 6 → U (2, i)) : XO G h2 g2 x := by
  obtain ⟨h1, r1, r0, f, hf, hfi⟩ := x0
  unfold XO
  rw [k.2 _ _ u0, k.2 _ _ (u14 0 (by decide)), k.2 _ _ (u14 1 (by decide)), k.2 _ _ (u14 2 (by decide)), k.2 _ _ (u14 3 (by decide))]
  exact ⟨(k.c h1 r1 t1).1, (k.c h1 r1 t1).2, (k.c hf r0 t0).2, f, (k.c hf r0 t0).1, fun i hi => by rw [k.2 _ _ (u2 i hi)]; exact hfi i hi⟩
theorem XA.fr {A : Nat → Nat → Int64} (x0 : XA G h g A) (k : KP T U g g2 h h2) (t2 : ∀ i, i < 6 → T (2, i)) (u2 : ∀ i, i < 6 → U (2, i)) : XA G h2 g2 A := fun i hi => by
  obtain ⟨r, f, hf, hq⟩ := x0 i hi
  rw [k.2 _ _ (u2 i hi)]
  exact ⟨(k.c hf r (t2 i hi)).2, f, (k.c hf r (t2 i hi)).1, hq⟩
theorem zAL.nil {a : Nat} {ar ar2 : Nat} (x0 : zAL G h a ar []) (e : ar = gs G 0) (h1 : ∀ e, h a = some e → h2 a = some e) : zAL G h2 a ar [] := by
  obtain ⟨h1', ⟨mo, h2'⟩, -⟩ := x0
  exact ⟨h1', ⟨mo, h1 _ h2'⟩, Or.inl ⟨rfl, e⟩⟩
theorem zAL.fr {a ar : Nat} {L : List Nat} (x0 : zAL G h a ar L) (h1 : ∀ e, h a = some e → h2 a = some e) (h3 : ∀ e, h ar = some e → h2 ar = some e) : zAL G h2 a ar L := by
  obtain ⟨h1', ⟨mo, h2'⟩, h4⟩ := x0
  refine ⟨h1', ⟨mo, h1 _ h2'⟩, ?_⟩
  rcases h4 with h4 | ⟨f, h4, h5⟩
  · exact Or.inl h4
  · exact Or.inr ⟨f, h3 _ h4, h5⟩
theorem XL.fr {j : Nat} {L : List Nat} (x0 : XL G h g j L) (k : KP T U g g2 h h2) (t1 : T (14, j)) (t2 : T (15, j)) (u1 : U (14, j)) (u2 : U (15, j)) : XL G h2 g2 j L := by
  obtain ⟨hz, r1, r2⟩ := x0
  unfold XL
  rw [k.2 _ _ u1, k.2 _ _ u2]
  have hc : ∃ e, h (qA g 14 j) = some e := by
    obtain ⟨-, ⟨mo, q⟩, -⟩ := hz
    exact ⟨_, q⟩
  obtain ⟨e, hc⟩ := hc
  refine ⟨?_, (k.c hc r1 t1).2, ?_⟩
  · rcases r2 with r2 | ⟨rfl, e2⟩
    · exact hz.fr (fun e he => (k.c he r1 t1).1) (fun e he => (k.c he r2 t2).1)
    · exact hz.nil (ar2 := 0) e2 (fun e he => (k.c he r1 t1).1)
  · rcases r2 with r2 | r2
    · obtain ⟨-, -, z⟩ := hz
      rcases z with z | ⟨f, z, -⟩
      · exact Or.inr z
      · exact Or.inl (k.c z r2 t2).2
    · exact Or.inr r2
theorem XT1.fr {i : Nat} (x0 : XT1 G h g s i) (xn : XN G h g (oN s) (oL s)) (k : KP T U g g2 h h2) (t3 : T (3, i)) (t4 : T (4, i)) (t5 : ∀ f, h (qA g 5 i) = some (cL G f) → ∃ f2, h2 (qA g 5 i) = some (cL G f2)) (u3 : U (3, i)) (u4 : U (4, i)) (u5 : U (5, i)) (e1 : oL s2 i = oL s i) (e2 : oD s2 i = oD s i) : XT1 G h2 g2 s2 i := by
  obtain ⟨r3, r4, r5, h3, ⟨f, hf, hd⟩, f5, hf5⟩ := x0
  unfold XT1
  rw [k.2 _ _ u3, k.2 _ _ u4, k.2 _ _ u5, e1, e2]
  refine ⟨(k.c h3 r3 t3).2, (k.c hf r4 t4).2, (k.1 _ _ hf5).2.1.trans r5, (k.c h3 r3 t3).1, ⟨f, (k.c hf r4 t4).1, fun q hq => ?_⟩, t5 _ hf5⟩
  rcases hd q hq with hd | ⟨a, d1, d2, d3⟩
  · exact Or.inl hd
  · obtain ⟨e, hc⟩ := (xn a d2).cell
    obtain ⟨kr, kt, -⟩ := (k.1 _ _ hc).2
    exact Or.inr ⟨a, d1, kr.trans d2, by rw [kt]; exact d3⟩
theorem XR1.fr {i : Nat} (x0 : XR1 G h g s i) (k : KP T U g g2 h h2) (t6 : T (6, i)) (t7 : T (7, i)) (t8 : T (8, i)) (t9 : T (9, i)) (u6 : U (6, i)) (u7 : U (7, i)) (u8 : U (8, i)) (u9 : U (9, i)) (uT : U (3, rT s i)) (uB : U (3, rB s i)) (eT : rT s2 i = rT s i) (eB : rB s2 i = rB s i) (eL : rL s2 i = rL s i) (eC : rC s2 i = rC s i) (eV : rV s2 i = rV s i) (eW : rW s2 i = rW s i) (eE : rE s2 i = rE s i) : XR1 G h2 g2 s2 i := by
  obtain ⟨r6, r7, r8, r9, h6, ⟨f7, h7, q7⟩, ⟨f8, h8, q8⟩, f9, h9, q9⟩ := x0
  unfold XR1
  rw [k.2 _ _ u6, k.2 _ _ u7, k.2 _ _ u8, k.2 _ _ u9, eT, eB, eL, eC, eV, eW, eE, k.2 _ _ uT, k.2 _ _ uB]
  exact ⟨(k.c h6 r6 t6).2, (k.c h7 r7 t7).2, (k.c h8 r8 t8).2, (k.c h9 r9 t9).2, (k.c h6 r6 t6).1, ⟨f7, (k.c h7 r7 t7).1, q7⟩, ⟨f8, (k.c h8 r8 t8).1, q8⟩, f9, (k.c h9 r9 t9).1, q9⟩
theorem XB1.fr {i : Nat} (x0 : XB1 G h g s i) (k : KP T U g g2 h h2) (t10 : T (10, i)) (u10 : U (10, i)) (uT : U (3, bT s i)) (eF : bF s2 i = bF s i) (eT : bT s2 i = bT s i) (eP : bP s2 i = bP s i) (eU : bU s2 i = bU s i) : XB1 G h2 g2 s2 i := by
  obtain ⟨r, hc⟩ := x0
  unfold XB1
  rw [k.2 _ _ u10, eF, eT, eP, eU, k.2 _ _ uT]
  exact ⟨(k.c hc r t10).2, (k.c hc r t10).1⟩
/-! new roles: of cells that were not known -/
def rx (ro : Nat → Nat × Nat) (h : zH) (nr : Nat → Nat × Nat) : Nat → Nat × Nat := fun b => if (h b).isSome = true then ro b else nr b
theorem rx_o {ro nr : Nat → Nat × Nat} {b : Nat} {e : va_E} (hb : h b = some e) : rx ro h nr b = ro b := by
  unfold rx; rw [hb]; rfl
theorem rx_n {ro nr : Nat → Nat × Nat} {b : Nat} (hb : h b = none) : rx ro h nr b = nr b := by
  unfold rx; rw [hb]; rfl
theorem rne {ro : Nat → Nat × Nat} {a b : Nat} {r1 r2 : Nat × Nat} (ha : ro a = r1) (hb : ro b = r2) (h : r1 ≠ r2) : b ≠ a := fun e => h (by rw [← ha, ← hb, e])
theorem up2_ne {α : Type} {f : Nat → α} {k j : Nat} {v : α} (h : j ≠ k) : up2 f k v j = f j := if_neg h
end

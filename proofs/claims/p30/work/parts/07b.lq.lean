/-! THE LAW: what a helper leaves -/
section
variable {G : zG} {h h1 h2 : zH} {g g2 : XGh} {x m o : Nat} {s s2 : ZS} {ad : Nat → Nat}
theorem XI.keep (hi : XI G h g x s) (hk : ∀ b e, h b = some e → qR g b ≠ (0, 0) → h2 b = some e) : XI G h2 g x s := by
  obtain ⟨⟨hO, hA, ⟨hL0, hL1, hL2, hL3⟩, hS, hN, hT, hR, hB⟩, hV⟩ := hi
  have k : KP (fun r => r ≠ (0, 0)) (fun _ => True) g g h h2 := ⟨fun b e hb => ⟨hk b e hb, rfl, rfl, rfl, rfl⟩, fun _ _ _ => rfl⟩
  have ko : KO G g h h2 := k.ko (by simp)
  exact ⟨⟨hO.fr k (by simp) (by simp) trivial (fun _ _ => trivial) (fun _ _ => trivial), hA.fr k (by simp) (fun _ _ => trivial), ⟨hL0.fr k (by simp) (by simp) trivial trivial, hL1.fr k (by simp) (by simp) trivial trivial, hL2.fr k (by simp) (by simp) trivial trivial, hL3.fr k (by simp) (by simp) trivial trivial⟩, hS, fun a ha => NF.fr hN ha k ko (by simp) (by simp) (fun _ _ => trivial) (fun _ _ => trivial) (Nat.le_refl _) (fun _ _ => rfl), fun i hi => (hT i hi).fr5 hN k (by simp) (by simp) (by simp) trivial trivial trivial rfl rfl, fun i hi => (hR i hi).fr k (by simp) (by simp) (by simp) (by simp) trivial trivial trivial trivial trivial trivial rfl rfl rfl rfl rfl rfl rfl, fun i hi => (hB i hi).fr k (by simp) trivial trivial rfl rfl rfl rfl⟩, hV.fr k hT (by simp) (fun _ _ => trivial) rfl rfl⟩
def oC (G : zG) (h : zH) (o : Nat) (f : Nat → Int64) : Prop := h o = some (.inl (gc G 1, 1, .inr (.inl f)))
/-- k: what the call throws; N: the state behind; a: what it writes to out[0] -/
def LQ (G : zG) (h : zH) (g : XGh) (x o k : Nat) (N : ZS) (a : Int64) (res : Int32) (h2 : zH) : Prop :=
  (k = 0 ∧ res = 0 ∧ ∃ g2, XI G h2 g2 x N ∧ (∃ f, oC G h2 o f ∧ f 0 = a) ∧ (∀ b e, h b = some e → b ≠ o → qR g b = (0, 0) → h2 b = some e ∧ qR g2 b = (0, 0)) ∧ qR g2 o = (0, 0)) ∨ (k ≠ 0 ∧ res = nI k ∧ h2 = h)
theorem LQ.ok {N : ZS} {k : Nat} {f : Nat → Int64} {a v : Int64} {i : Int32} (ho : oC G h o f) (hro : qR g o = (0, 0)) (hk : k = 0) (xz : XI G h1 g2 x N) (fz : XFr g g2 h h1) (eh : h2 = zup h1 o (.inl (gc G 1, 1, .inr (.inl (vp_updL f i.toNatClampNeg v))))) (hi : i.toNatClampNeg = 0) (hv : v = a) : LQ G h g x o k N a 0 h2 := by
  obtain ⟨ho1, hr1⟩ := fz o _ ho hro
  refine Or.inl ⟨hk, rfl, g2, xz.keep (fun b e hb hr => ?_), ⟨_, by rw [eh]; exact zup_self _ _ _, ?_⟩, fun b e hb hn hr => ?_, hr1⟩
  · rw [eh, zup_ne _ _ (fun z => hr (by rw [z]; exact hr1))]; exact hb
  · rw [hi, ← hv]; exact pk_uLs
  · rw [eh, zup_ne _ _ hn]; exact fz b e hb hr
end

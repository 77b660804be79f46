/-! THE LAW's invariant -/
section
variable {p : Program} {l : Launch} {e : Env} {R : Room} {s : State} {m : MethodId} {args : Array Value} {below : List Frame} {meth : Method} {c : Code} {G : zG} {cc : ByteArray} {nL : Nat} {own : String} {Q : State → Prop} {h : zH} {cs sl pc : Nat} {lv : List (Nat × Value)} {st : List Value}
theorem v_lt (k : ∀ B : Nat, (∀ b e, h b = some e → b < B) → V p l e R s m args below meth c G nL Q h cs sl pc lv st) : V p l e R s m args below meth c G nL Q h cs sl pc lv st := fun H locs ls hP hS hL => k H.size (fun b e hb => hP.lt hb) H locs ls hP hS hL
theorem v_sld (C : zOK p l e R s m args below meth c G cc nL own) {b L : Nat} {xs : Nat → Int32} {i : Int32} (hX : va_X b L xs s s.heap ∧ b < s.heap.size ∧ b < gN G) (hin : vp_in i L) (hd : decode cc pc = .ok (.iaload, 1)) (kk : V p l e R s m args below meth c G nL Q h cs sl (pc + 1) lv (.int (xs i.toNatClampNeg) :: st)) : V p l e R s m args below meth c G nL Q h cs sl pc lv (.int i :: .ref b :: st) := fun H locs ls hP hS hL => va_sld C.1 C.2.1 hX.1 hX.2.1 (Nat.not_le.mpr hX.2.2) hS hin hd (kk H locs ls hP hS hL)
theorem v_slen (C : zOK p l e R s m args below meth c G cc nL own) {b L : Nat} {xs : Nat → Int32} (hX : va_X b L xs s s.heap ∧ b < s.heap.size ∧ b < gN G) (hd : decode cc pc = .ok (.arraylength, 1)) (kk : V p l e R s m args below meth c G nL Q h cs sl (pc + 1) lv (.int (nI L) :: st)) : V p l e R s m args below meth c G nL Q h cs sl pc lv (.ref b :: st) := fun H locs ls hP hS hL => va_slen C.1 C.2.1 hX.1 hX.2.1 (Nat.not_le.mpr hX.2.2) hS hd (kk H locs ls hP hS hL)
end
section
variable {G : zG} {h h0 h1 h2 : zH} {g g2 : XGh} {x m o k k0 B : Nat} {s s2 N : ZS} {ad : Nat → Nat}
theorem mArr_of {j : Nat} (h : mArr j = true) : mNat j = true ∨ mInt j = true ∨ mLng j = true := by
  simp only [mArr, Bool.or_eq_true] at h
  rcases h with (h | h) | h
  · exact Or.inl h
  · exact Or.inr (Or.inl h)
  · exact Or.inr (Or.inr h)
theorem mN_ne : ∀ j, j < 30 → mArr j = true → mN j ≠ 1 := by decide +kernel
theorem mArr_lt {j : Nat} (h : mArr j = true) : j < 30 := by
  rcases mArr_of h with h | h | h
  · exact (mNat_lt h).1
  · exact (mInt_lt h).1
  · exact (mLng_lt h).1
theorem MO.cells (mo : MO G h0 h m ad s k) : (∃ vs, h m = some (.inr (8, vs))) ∧ ∀ j, mArr j = true → ∃ (ca : ClassId) (z : _), h (ad j) = some (.inl (ca, mN j, z)) := by
  obtain ⟨ns, na, ia, la, ⟨r1, r2, r3, r4, -⟩, -⟩ := mo
  refine ⟨⟨_, r1⟩, fun j hj => ?_⟩
  rcases mArr_of hj with h | h | h
  · exact ⟨_, _, r2 j h⟩
  · exact ⟨_, _, r3 j h⟩
  · exact ⟨_, _, r4 j h⟩
theorem MO.keep (mo : MO G h0 h m ad s k) (hk : ∀ b e, h b = some e → (b = m ∨ ∃ j, mArr j = true ∧ b = ad j) → h1 b = some e) : MO G h1 h1 m ad s k := by
  obtain ⟨ns, na, ia, la, ⟨r1, r2, r3, r4, r5, r6⟩, ms, e⟩ := mo
  refine ⟨ns, na, ia, la, ⟨hk _ _ r1 (Or.inl rfl), fun j hj => hk _ _ (r2 j hj) (Or.inr ⟨j, ?_, rfl⟩), fun j hj => hk _ _ (r3 j hj) (Or.inr ⟨j, ?_, rfl⟩), fun j hj => hk _ _ (r4 j hj) (Or.inr ⟨j, ?_, rfl⟩), r5, fun _ _ _ => rfl⟩, ms, e⟩
  · simp [mArr, hj]
  · simp [mArr, hj]
  · simp [mArr, hj]
theorem MO.base (mo : MO G h0 h m ad s k) : MO G h h m ad s k := mo.keep (fun _ _ hb _ => hb)
def adB (ad : Nat → Nat) (B : Nat) : Nat → Nat := fun k => if mArr k = true then ad k else B + k
theorem adB_a {j : Nat} (hj : mArr j = true) : adB ad B j = ad j := if_pos hj
theorem adB_n {j : Nat} (hj : ¬ mArr j = true) : adB ad B j = B + j := if_neg hj
theorem MO.re (mo : MO G h h m ad s k) (hB : ∀ b e, h b = some e → b < B) : MO G h h m (adB ad B) s k := by
  obtain ⟨-, cl⟩ := mo.cells
  obtain ⟨ns, na, ia, la, ⟨r1, r2, r3, r4, r5, r6⟩, ms, e⟩ := mo
  refine ⟨ns, na, ia, la, ⟨r1, fun j hj => ?_, fun j hj => ?_, fun j hj => ?_, fun i j hi hj hij => ?_, fun _ _ _ => rfl⟩, ms, e⟩
  · rw [adB_a (by simp [mArr, hj])]; exact r2 j hj
  · rw [adB_a (by simp [mArr, hj])]; exact r3 j hj
  · rw [adB_a (by simp [mArr, hj])]; exact r4 j hj
  · by_cases a : mArr i = true
    · by_cases b : mArr j = true
      · rw [adB_a a, adB_a b] at hij; exact r5 i j hi hj hij
      · rw [adB_a a, adB_n b] at hij
        obtain ⟨ca, z, hz⟩ := cl i a
        have := hB _ _ hz
        omega
    · by_cases b : mArr j = true
      · rw [adB_n a, adB_a b] at hij
        obtain ⟨ca, z, hz⟩ := cl j b
        have := hB _ _ hz
        omega
      · rw [adB_n a, adB_n b] at hij; omega
def LI (G : zG) (h : zH) (g : XGh) (x m o : Nat) (ad : Nat → Nat) (s : ZS) : Prop := XI G h g x s ∧ WFs s ∧ (∃ k, MO G h h m ad s k) ∧ qR g m = (0, 0) ∧ (∀ j, mArr j = true → qR g (ad j) = (0, 0)) ∧ (∃ f, oC G h o f) ∧ qR g o = (0, 0)
/-- ahead of the model's call: the class is at N, the model at s -/
def LM (G : zG) (h : zH) (g : XGh) (x m o : Nat) (ad : Nat → Nat) (N s : ZS) (P : (Nat → Int64) → Prop) : Prop := XI G h g x N ∧ (∃ k, MO G h h m ad s k) ∧ qR g m = (0, 0) ∧ (∀ j, mArr j = true → qR g (ad j) = (0, 0)) ∧ (∃ f, oC G h o f ∧ P f) ∧ qR g o = (0, 0)
theorem MO.o_ne (mo : MO G h h m ad s k) {f : Nat → Int64} (ho : oC G h o f) : o ≠ m ∧ ∀ j, mArr j = true → o ≠ ad j := by
  obtain ⟨⟨vs, c1⟩, c2⟩ := mo.cells
  refine ⟨zne_ol c1 ho, fun j hj => ?_⟩
  obtain ⟨ca, z, hz⟩ := c2 j hj
  exact zne_sh hz ho (fun q => by injection q with q; injection q with _ q; injection q with q _; exact mN_ne j (mArr_lt hj) hj q)
theorem LI.ok {kk : Nat} {a : Int64} {res : Int32} (li : LI G h g x m o ad s) (lq : LQ G h g x o kk N a res h1) (hk : kk = 0) : res = 0 ∧ ∃ g2, LM G h1 g2 x m o ad N s (fun f => f 0 = a) := by
  obtain ⟨-, -, ⟨k, mo⟩, rm, ra, ⟨f, ho⟩, ro⟩ := li
  rcases lq with ⟨-, er, g2, xi, ho2, fr, ro2⟩ | ⟨hn, -⟩
  · have on := mo.o_ne ho
    obtain ⟨⟨vs, c1⟩, c2⟩ := mo.cells
    refine ⟨er, g2, xi, ⟨k, mo.keep (fun b e hb hr => ?_)⟩, (fr m _ c1 on.1.symm rm).2, fun j hj => ?_, ho2, ro2⟩
    · rcases hr with rfl | ⟨j, hj, rfl⟩
      · exact (fr _ _ hb on.1.symm rm).1
      · exact (fr _ _ hb (on.2 j hj).symm (ra j hj)).1
    · obtain ⟨ca, z, hz⟩ := c2 j hj
      exact (fr _ _ hz (on.2 j hj).symm (ra j hj)).2
  · exact absurd hk hn
theorem LI.no {kk : Nat} {a : Int64} {res : Int32} (li : LI G h g x m o ad s) (lq : LQ G h g x o kk N a res h1) (hk : kk ≠ 0) : res = nI kk ∧ ∃ g2, LM G h1 g2 x m o ad s s (fun _ => True) := by
  obtain ⟨xi, -, ⟨k, mo⟩, rm, ra, ⟨f, ho⟩, ro⟩ := li
  rcases lq with ⟨hn, -⟩ | ⟨-, er, rfl⟩
  · exact absurd hn hk
  · exact ⟨er, g, xi, ⟨k, mo⟩, rm, ra, ⟨f, ho, trivial⟩, ro⟩
theorem LI.lm (li : LI G h g x m o ad s) : LM G h g x m o ad s s (fun _ => True) := by
  obtain ⟨xi, -, mo, rm, ra, ⟨f, ho⟩, ro⟩ := li
  exact ⟨xi, mo, rm, ra, ⟨f, ho, trivial⟩, ro⟩
/-- behind the model's call -/
theorem LM.step {P : (Nat → Int64) → Prop} (lm : LM G h1 g x m o ad N s P) (hB : ∀ b e, h1 b = some e → b < B) (wf : WFs N) (mo : MO G h1 h2 m (adB ad B) N k) : LI G h2 g x m o (adB ad B) N ∧ ∃ f, oC G h2 o f ∧ P f := by
  obtain ⟨xi, ⟨k1, mo1⟩, rm, ra, ⟨f, ho, hp⟩, ro⟩ := lm
  have on := mo1.o_ne ho
  have fr : ∀ b e, h1 b = some e → b ≠ m → (∀ j, mArr j = true → b ≠ ad j) → h2 b = some e := fun b e hb h1' h2' => by
    obtain ⟨ns, na, ia, la, ⟨-, -, -, -, -, r6⟩, -⟩ := mo
    rw [r6 b h1' (fun j hj => ?_)]
    · exact hb
    · by_cases a : mArr j = true
      · rw [adB_a a]; exact h2' j a
      · rw [adB_n a]; have := hB b e hb; omega
  have ho2 := fr o _ ho on.1 on.2
  refine ⟨⟨xi.keep (fun b e hb hr => fr b e hb (fun z => hr (by rw [z]; exact rm)) (fun j hj z => hr (by rw [z]; exact ra j hj))), wf, ⟨k, mo.base⟩, rm, fun j hj => by rw [adB_a hj]; exact ra j hj, ⟨f, ho2⟩, ro⟩, f, ho2, hp⟩
theorem nI_nz4 {k : Nat} (h : k ≠ 0) (hk : k < 4) : ¬ nI k = 0 := fun z => h (by
  have e := congrArg Int32.toNatClampNeg z
  rw [nI_clamp (show k < 2 ^ 31 by omega)] at e
  exact e)
end

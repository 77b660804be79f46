/-! THE MODEL's start -/
def KA (m : Nat) (h0 h : zH) (L : List (Nat × va_E)) : Prop := (∀ p ∈ L, h p.1 = some p.2) ∧ (L.map Prod.fst).Nodup ∧ m ∉ L.map Prod.fst ∧ (∀ p ∈ L, h0 p.1 = none) ∧ zKp (fun b => b = m) h0 h ∧ ∃ e, h m = some e
theorem KA.nil {m : Nat} {h : zH} {e : va_E} (hm : h m = some e) : KA m h h [] := ⟨fun p hp => absurd hp List.not_mem_nil, List.Pairwise.nil, fun hp => absurd hp List.not_mem_nil, fun p hp => absurd hp List.not_mem_nil, zk_rf _ _, e, hm⟩
theorem KA.key {m : Nat} {h0 h : zH} {L : List (Nat × va_E)} (k : KA m h0 h L) {a : Nat} (ha : a ∈ L.map Prod.fst) : ∃ e, h a = some e := by
  obtain ⟨p, hp, rfl⟩ := List.mem_map.mp ha
  exact ⟨_, k.1 p hp⟩
theorem KA.new {m q : Nat} {h0 h h2 : zH} {e : va_E} {L : List (Nat × va_E)} (k : KA m h0 h L) (eh : h2 = zup h q e) (hn : h q = none) : KA m h0 h2 ((q, e) :: L) := by
  obtain ⟨k1, k2, k3, k4, k5, em, k6⟩ := id k
  have hqm : q ≠ m := fun z => by rw [z, k6] at hn; cases hn
  have hqL : q ∉ L.map Prod.fst := fun z => by
    obtain ⟨e2, h3⟩ := k.key z
    rw [hn] at h3; cases h3
  refine ⟨fun p hp => ?_, List.nodup_cons.mpr ⟨hqL, k2⟩, fun z => ?_, fun p hp => ?_, zk_new k5 eh hn, em, by rw [eh, zup_ne _ _ hqm.symm]; exact k6⟩
  · rcases List.mem_cons.mp hp with rfl | hp
    · rw [eh, zup_self]
    · rw [eh, zup_ne _ _ (fun z => hqL (by rw [← z]; exact List.mem_map.mpr ⟨p, hp, rfl⟩))]; exact k1 p hp
  · rcases List.mem_cons.mp z with z | z
    · exact hqm z.symm
    · exact k3 z
  · rcases List.mem_cons.mp hp with rfl | hp
    · cases hh : h0 q with
      | none => rfl
      | some x => have := k5 q x hqm hh; rw [hn] at this; cases this
    · exact k4 p hp
theorem KA.put {m : Nat} {h0 h h2 : zH} {e : va_E} {L : List (Nat × va_E)} (k : KA m h0 h L) (eh : h2 = zup h m e) : KA m h0 h2 L := by
  obtain ⟨k1, k2, k3, k4, k5, em, k6⟩ := k
  refine ⟨fun p hp => ?_, k2, k3, k4, zk_put k5 eh rfl, e, by rw [eh, zup_self]⟩
  rw [eh, zup_ne _ _ (fun z => k3 (by rw [← z]; exact List.mem_map.mpr ⟨p, hp, rfl⟩))]; exact k1 p hp
theorem getD_memN {L : List Nat} {j : Nat} (h : j < L.length) : L.getD j 0 ∈ L := by
  rw [List.getD_eq_getElem?_getD, List.getElem?_eq_getElem h]; exact List.getElem_mem h
def mArr (k : Nat) : Bool := mNat k || mInt k || mLng k

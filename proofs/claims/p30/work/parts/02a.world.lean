/-! ===== THE LAYER: heaps as partial functions over the kit's worlds; one judgement V over them ===== -/
abbrev zH : Type := Nat → Option va_E
def zup (h : zH) (a : Nat) (e : va_E) : zH := fun b => if b = a then some e else h b
theorem zup_self (h : zH) (a : Nat) (e : va_E) : zup h a e a = some e := if_pos rfl
theorem zup_ne (h : zH) {a b : Nat} (e : va_E) (hb : b ≠ a) : zup h a e b = h b := if_neg hb
abbrev zG : Type := va_G × (Nat → ClassId) × Nat × (Nat → Nat) × (Nat → Nat)
abbrev gD (G : zG) : va_G := G.1
abbrev gc (G : zG) : Nat → ClassId := G.2.1
abbrev gN (G : zG) : Nat := G.2.2.1
abbrev gs (G : zG) : Nat → Nat := G.2.2.2.1
abbrev gb (G : zG) : Nat → Nat := G.2.2.2.2
abbrev zCl : List vw_C := [(RJ0, TJ0, 4), (RJ4, TJ4, 4), (RJx4a65c, TJx4a65c, 3), (RX0, TX0, 4), (RX1, TX1, 8), (RX2, TX2, 9), (RX3, TX3, 4), (RX4, TX4, 5)]
abbrev zTy (ca : Nat → ClassId) : List (ClassId × FieldType) := [(ca 0, .int), (ca 1, .long), (ca 2, .byte), (ca 3, .int), (ca 4, .boolean), (ca 5, .object "java/lang/Object"), (ca 6, .object RX1), (ca 7, .array .long)]
def zA (G : zG) : Nat → Prop := fun q => gN G ≤ q
/-- the texts of the constants that are used as texts: the pool's place, the letters -/
abbrev zCon : List (Nat × List Nat) := [(71, [65]), (92, []), (111, [84]), (173, [109, 105, 110]), (175, [109, 97, 120]), (180, [32, 43, 32]), (182, [32, 45, 32]), (184, [44, 32]), (186, [37, 32, 111, 102, 32]), (188, [121, 101, 97, 114, 40])]
abbrev zStrW : List (Nat × String) := [(39, "no such account or quarter"), (52, "the amount is out of its range"), (58, "no such account"), (66, "the stack is full"), (71, "A"), (84, "the number is out of its range"), (92, ""), (97, "no such term"), (109, "the stack is full, or the term's level is the highest"), (111, "T"), (117, "no such kind"), (123, "fewer than two formulas, or one of the highest level"), (173, "min"), (175, "max"), (180, " + "), (182, " - "), (184, ", "), (139, "the percents are out of their range"), (141, "no formula, or one of the highest level"), (186, "% of "), (188, "year("), (190, "no formula, or too many terms"), (195, "no such term or quarter"), (201, "no formula, or one that the term can't have"), (219, "no such character"), (278, "too many tests"), (288, "no such test or quarter"), (290, "the limit is out of its range"), (299, "no such test or account"), (301, "the least amount is out of its range"), (309, "the money is out of its range"), (318, "a cure in that quarter, or too many about it"), (338, "no limit, or a bottom that is not above 0"), (355, "the fixed amount or the percents are out of range"), (357, "too many baskets"), (367, "no such basket or quarter"), (377, "more than the basket's size"), (379, "no such basket"), (381, "less is used of the basket")]
/-- what is known of classes and constants, whatever the heap -/
def zK (G : zG) (U : State) : Prop := va_K (gD G) zCl (zTy (gc G)) U ∧ ∀ q ∈ zStrW, vk_R RX4 q.1 q.2 (gs G q.1) U
/-- static fields and constant texts: what they hold -/
def zZ (G : zG) (U : State) (H : Heap) : Prop :=
  (va_Z "java/lang/String" "COMPACT_STRINGS" "Z" (.int 1) (zA G) U H ∧ va_Z "java/util/ArrayList" "DEFAULTCAPACITY_EMPTY_ELEMENTDATA" "[Ljava/lang/Object;" (.ref (gs G 0)) (zA G) U H ∧ va_T (.object "java/lang/Object") (gs G 0) 0 (fun _ => .null) (zA G) U H ∧
  va_Z "java/lang/Integer" "DigitOnes" "[B" (.ref (gs G 1)) (zA G) U H ∧ va_T .byte (gs G 1) 100 (fun j => .int (nI (48 + j % 10))) (zA G) U H ∧ va_Z "java/lang/Integer" "DigitTens" "[B" (.ref (gs G 2)) (zA G) U H ∧ va_T .byte (gs G 2) 100 (fun j => .int (nI (48 + j / 10))) (zA G) U H) ∧
  (va_Zq "jdk/internal/util/Preconditions" "SIOOBE_FORMATTER" "Ljava/util/function/BiFunction;" (zA G) U H ∧ vx_Zq Bundle.tN "UNASSIGNED_STACK" Bundle.steD (zA G) U H ∧ vx_Zq Bundle.tN "SUPPRESSED_SENTINEL" Bundle.listD (zA G) U H) ∧
  ∀ q ∈ zCon, va_O "java/lang/String" (gs G q.1) (zA G) U H ∧ va_OF "java/lang/String" "coder" "B" (.int 0) (gs G q.1) (zA G) U H ∧ va_OF "java/lang/String" "value" "[B" (.ref (gb G q.1)) (gs G q.1) (zA G) U H ∧ va_T .byte (gb G q.1) q.2.length (fun j => .int (nI (q.2.getD j 0))) (zA G) U H
theorem zZ.moved {G : zG} {u U : State} {H : Heap} (hvm : u.vm.Alike U.vm) (h : zZ G u H) : zZ G U H := by
  obtain ⟨⟨a1, a2, a3, a4, a5, a6, a7⟩, ⟨b1, b2, b3⟩, k⟩ := h
  exact ⟨⟨a1.moved hvm, a2.moved hvm, a3.moved hvm, a4.moved hvm, a5.moved hvm, a6.moved hvm, a7.moved hvm⟩, ⟨b1.moved hvm, b2.moved hvm, b3.moved hvm⟩, fun q hq => ⟨(k q hq).1.moved hvm, (k q hq).2.1.moved hvm, (k q hq).2.2.1.moved hvm, (k q hq).2.2.2.moved hvm⟩⟩
theorem zZ.kept {G : zG} {U : State} {H H1 : Heap} (h : zZ G U H) (hq : ∀ a : Nat, a < H.size → ¬ zA G a → H1[a]? = H[a]?) : zZ G U H1 := by
  obtain ⟨⟨a1, a2, a3, a4, a5, a6, a7⟩, ⟨b1, b2, b3⟩, k⟩ := h
  exact ⟨⟨a1.kept hq, a2.kept hq, a3.kept hq, a4.kept hq, a5.kept hq, a6.kept hq, a7.kept hq⟩, ⟨b1.kept hq, b2.kept hq, b3.kept hq⟩, fun q hq' => ⟨(k q hq').1.kept hq, (k q hq').2.1.kept hq, (k q hq').2.2.1.kept hq, (k q hq').2.2.2.kept hq⟩⟩
theorem zK.moved {G : zG} {u U : State} (hvm : u.WarmedH U.vm) (h : zK G u) : zK G U := ⟨h.1.moved hvm.alike, fun q hq => vk_R.warm hvm (h.2 q hq)⟩
/-- the world: the known cells from gN on, apart, in the heap -/
def zPw (G : zG) (h : zH) (H : Heap) : Prop := gN G ≤ H.size ∧ ∃ (L : List Nat) (f : Nat → va_E), va_P (gD G) zCl (va_pl L f) H ∧ va_D (zA G) (va_pl L f) ∧ ∀ a e, h a = some e → a ∈ L ∧ f a = e
theorem zPw.get {G : zG} {h : zH} {H : Heap} (hP : zPw G h H) {a : Nat} {e : va_E} (ha : h a = some e) : va_at (gD G) zCl (a, e) H := by
  obtain ⟨-, L, f, p, -, k⟩ := hP
  obtain ⟨h1, h2⟩ := k a e ha
  obtain ⟨i, hi⟩ := va_pl_get (X := []) (f := f) h1
  have h3 := p i (a, f a) hi
  rw [h2] at h3
  exact h3
theorem zPw.one {G : zG} {h : zH} {H : Heap} (hP : zPw G h H) {a : Nat} {e : va_E} (ha : h a = some e) : va_P (gD G) zCl [(a, e)] H := fun k q hk => by
  have h0 : k < 1 := (List.getElem?_eq_some_iff.mp hk).1
  rw [show k = 0 by omega] at hk
  cases hk
  exact hP.get ha
theorem zPw.ge {G : zG} {h : zH} {H : Heap} (hP : zPw G h H) {a : Nat} {e : va_E} (ha : h a = some e) : gN G ≤ a := by
  obtain ⟨-, L, f, p, d, k⟩ := hP
  obtain ⟨h1, h2⟩ := k a e ha
  obtain ⟨i, hi⟩ := va_pl_get (X := []) (f := f) h1
  exact d.2 i _ hi
theorem zPw.lt {G : zG} {h : zH} {H : Heap} (hP : zPw G h H) {a : Nat} {e : va_E} (ha : h a = some e) : a < H.size := (hP.get ha).lt
/-- a cell is rewritten -/
theorem zPw.put {G : zG} {h : zH} {H : Heap} (hP : zPw G h H) {a : Nat} {e e' : va_E} (ha : h a = some e) {M : Prop}
    (kk : ∀ (ws : va_W) (q0 : Nat), va_P (gD G) zCl ws H → va_D (zA G) ws → ws[q0]? = some (a, e) → (∀ H1 : Heap, gN G ≤ H1.size → va_P (gD G) zCl (ws.set q0 (a, e')) H1 → va_D (zA G) (ws.set q0 (a, e')) → zPw G (zup h a e') H1) → M) : M := by
  obtain ⟨n0, L, f, p, d, k⟩ := id hP
  obtain ⟨h1, h2⟩ := k a e ha
  obtain ⟨i, hi⟩ := va_pl_get (X := []) (f := f) h1
  have hi' : (va_pl L f)[i]? = some (a, f a) := hi
  refine kk (va_pl L f) i p d (by rw [hi', h2]) (fun H1 hz p1 d1 => ?_)
  have es : (va_pl L f).set i (a, e') = va_pl L (va_up f a e') := va_pl_set (X := []) d h1 hi
  rw [es] at p1 d1
  refine ⟨hz, L, va_up f a e', p1, d1, fun b x hb => ?_⟩
  by_cases hba : b = a
  · subst hba
    rw [zup_self] at hb
    cases hb
    exact ⟨h1, va_up_self _ _ _⟩
  · rw [zup_ne _ _ hba] at hb
    rw [va_up_ne _ _ hba]
    exact k b x hb
/-- .. with the place of a second known cell -/
theorem zPw.put2 {G : zG} {h : zH} {H : Heap} (hP : zPw G h H) {a b : Nat} {e e' x : va_E} (ha : h a = some e) (hb : h b = some x) {M : Prop}
    (kk : ∀ (ws : va_W) (q0 q1 : Nat), va_P (gD G) zCl ws H → va_D (zA G) ws → ws[q0]? = some (a, e) → ws[q1]? = some (b, x) → (∀ H1 : Heap, gN G ≤ H1.size → va_P (gD G) zCl (ws.set q0 (a, e')) H1 → va_D (zA G) (ws.set q0 (a, e')) → zPw G (zup h a e') H1) → M) : M := by
  obtain ⟨n0, L, f, p, d, k⟩ := id hP
  obtain ⟨h1, h2⟩ := k a e ha
  obtain ⟨h3, h4⟩ := k b x hb
  obtain ⟨i, hi⟩ := va_pl_get (X := []) (f := f) h1
  obtain ⟨j, hj⟩ := va_pl_get (X := []) (f := f) h3
  have hi' : (va_pl L f)[i]? = some (a, f a) := hi
  have hj' : (va_pl L f)[j]? = some (b, f b) := hj
  refine kk (va_pl L f) i j p d (by rw [hi', h2]) (by rw [hj', h4]) (fun H1 hz p1 d1 => ?_)
  have es : (va_pl L f).set i (a, e') = va_pl L (va_up f a e') := va_pl_set (X := []) d h1 hi
  rw [es] at p1 d1
  refine ⟨hz, L, va_up f a e', p1, d1, fun b x hb => ?_⟩
  by_cases hba : b = a
  · subst hba
    rw [zup_self] at hb
    cases hb
    exact ⟨h1, va_up_self _ _ _⟩
  · rw [zup_ne _ _ hba] at hb
    rw [va_up_ne _ _ hba]
    exact k b x hb
/-- a new cell -/
theorem zPw.new {G : zG} {h : zH} {H : Heap} (hP : zPw G h H) {M : Prop}
    (kk : ∀ ws : va_W, va_P (gD G) zCl ws H → va_D (zA G) ws → (∀ (q : Nat) (e : va_E) (H1 : Heap), gN G ≤ H1.size → va_P (gD G) zCl (ws ++ [(q, e)]) H1 → va_D (zA G) (ws ++ [(q, e)]) → gN G ≤ q ∧ h q = none ∧ zPw G (zup h q e) H1) → M) : M := by
  obtain ⟨n0, L, f, p, d, k⟩ := id hP
  refine kk (va_pl L f) p d (fun q e H1 hz p1 d1 => ?_)
  have hnew : q ∉ L := fun hq => by
    obtain ⟨i, hi⟩ := va_pl_get (X := []) (f := f) hq
    have hi' : (va_pl L f)[i]? = some (q, f q) := hi
    have hl := (List.getElem?_eq_some_iff.mp hi').1
    have := d1.1 i (va_pl L f).length (q, f q) (q, e) (by rw [List.getElem?_append_left hl]; exact hi') (by rw [List.getElem?_append_right (Nat.le_refl _), Nat.sub_self]; rfl) rfl
    omega
  have hge : gN G ≤ q := d1.2 (va_pl L f).length (q, e) (by rw [List.getElem?_append_right (Nat.le_refl _), Nat.sub_self]; rfl)
  refine ⟨hge, ?_, hz, L ++ [q], va_up f q e, by rw [← va_pl_push hnew]; exact p1, by rw [← va_pl_push hnew]; exact d1, fun b x hb => ?_⟩
  · cases hq : h q with
    | none => rfl
    | some x => exact absurd (k q x hq).1 hnew
  · by_cases hbq : b = q
    · subst hbq
      rw [zup_self] at hb
      cases hb
      exact ⟨List.mem_append_right _ List.mem_cons_self, va_up_self _ _ _⟩
    · rw [zup_ne _ _ hbq] at hb
      rw [va_up_ne _ _ hbq]
      exact ⟨List.mem_append_left _ (k b x hb).1, (k b x hb).2⟩
/-- a new cell, with the place of a known one -/
theorem zPw.new2 {G : zG} {h : zH} {H : Heap} (hP : zPw G h H) {b : Nat} {x : va_E} (hb0 : h b = some x) {M : Prop}
    (kk : ∀ (ws : va_W) (q1 : Nat), va_P (gD G) zCl ws H → va_D (zA G) ws → ws[q1]? = some (b, x) → (∀ (q : Nat) (e : va_E) (H1 : Heap), gN G ≤ H1.size → va_P (gD G) zCl (ws ++ [(q, e)]) H1 → va_D (zA G) (ws ++ [(q, e)]) → gN G ≤ q ∧ h q = none ∧ zPw G (zup h q e) H1) → M) : M := by
  obtain ⟨n0, L, f, p, d, k⟩ := id hP
  obtain ⟨h3, h4⟩ := k b x hb0
  obtain ⟨j, hj⟩ := va_pl_get (X := []) (f := f) h3
  have hj' : (va_pl L f)[j]? = some (b, f b) := hj
  refine kk (va_pl L f) j p d (by rw [hj', h4]) (fun q e H1 hz p1 d1 => ?_)
  have hnew : q ∉ L := fun hq => by
    obtain ⟨i, hi⟩ := va_pl_get (X := []) (f := f) hq
    have hi' : (va_pl L f)[i]? = some (q, f q) := hi
    have hl := (List.getElem?_eq_some_iff.mp hi').1
    have := d1.1 i (va_pl L f).length (q, f q) (q, e) (by rw [List.getElem?_append_left hl]; exact hi') (by rw [List.getElem?_append_right (Nat.le_refl _), Nat.sub_self]; rfl) rfl
    omega
  have hge : gN G ≤ q := d1.2 (va_pl L f).length (q, e) (by rw [List.getElem?_append_right (Nat.le_refl _), Nat.sub_self]; rfl)
  refine ⟨hge, ?_, hz, L ++ [q], va_up f q e, by rw [← va_pl_push hnew]; exact p1, by rw [← va_pl_push hnew]; exact d1, fun b x hb => ?_⟩
  · cases hq : h q with
    | none => rfl
    | some x => exact absurd (k q x hq).1 hnew
  · by_cases hbq : b = q
    · subst hbq
      rw [zup_self] at hb
      cases hb
      exact ⟨List.mem_append_right _ List.mem_cons_self, va_up_self _ _ _⟩
    · rw [zup_ne _ _ hbq] at hb
      rw [va_up_ne _ _ hbq]
      exact ⟨List.mem_append_left _ (k b x hb).1, (k b x hb).2⟩
/-- fewer known cells -/
theorem zPw.less {G : zG} {h h' : zH} {H : Heap} (hP : zPw G h H) (hl : ∀ a e, h' a = some e → h a = some e) : zPw G h' H := by
  obtain ⟨n0, L, f, p, d, k⟩ := hP
  exact ⟨n0, L, f, p, d, fun a e ha => k a e (hl a e ha)⟩
theorem zPw.kept {G : zG} {h : zH} {H H1 : Heap} (hP : zPw G h H) (hz : H.size ≤ H1.size) (hq : ∀ q : Nat, q < H.size → H1[q]? = H[q]?) : zPw G h H1 := by
  obtain ⟨n0, L, f, p, d, k⟩ := hP
  exact ⟨Nat.le_trans n0 hz, L, f, p.kept (fun i q hi => hq q.1 (p i q hi).lt), d, k⟩
/-- words that hold in every state that the machine comes to -/
def zKind : Cond → Bool
  | .fieldLinkNest .. => true
  | .methodLinkNest .. => true
  | .castable .. => true
  | .declares .. => true
  | .arrayOver .. => true
  | .privateMethod .. => true
  | _ => false
def zGood (w : Cond) : Bool := goodWord w || zKind w
theorem zGood_warm {w : Cond} (h : zGood w = true) {s U : State} {args a' : Array Value} (hW : s.WarmedH U.vm) (hb : w.before args s = true) : w.before a' U = true := by
  simp only [zGood, Bool.or_eq_true] at h
  rcases h with h | h
  · exact word_at hW (good_of_word h) hb
  · cases w with
    | fieldLinkNest a i b n d h => exact va_Nw.use rfl (va_Nw.warmF hW (va_Nw.of rfl hb))
    | methodLinkNest a i x h => exact va_Nw.use rfl (va_Nw.warmM hW (va_Nw.of rfl hb))
    | castable a b => exact va_Nw.use rfl (va_Nw.warmC hW (va_Nw.of rfl hb))
    | declares x => exact va_Nw.use rfl (va_Nw.warmD hW (va_Nw.of rfl hb))
    | privateMethod y =>
      have q : (Cond.privateMethod y).before args (s.setVm U.vm) = true := by rw [Cond.privateMethod_setVm hW.alike]; exact hb
      exact q
    | arrayOver ty =>
      have q : (Cond.arrayOver ty).before args (s.setVm U.vm) = true := by rw [Cond.arrayOver_setVmC hW.alike]; exact hb
      exact q
    | _ => simp [zKind] at h
def zT : List Cond := lw_tbl.filter zGood
theorem zT_of {w : Cond} (i : Nat) (h : lw_tbl[i]? = some w) (hg : zGood w = true) : w ∈ zT := List.mem_filter.mpr ⟨List.mem_of_getElem? h, hg⟩
theorem zT_good {w : Cond} (h : w ∈ zT) : zGood w = true := (List.mem_filter.mp h).2
/-- a private method of a class above is what its own call selects -/
theorem zselP {s : State} {args : Array Value} {C : String} {y z : MethodName} (hyz : z.cls = y.cls) (hz : (Cond.selects C z z).before args s = true) (hpriv : (Cond.privateMethod y).before args s = true) (hinst : (Cond.instanceMethod y).before args s = true) (hy : y.cls ≠ "java/lang/invoke/MethodHandle" ∧ y.cls ≠ "java/lang/invoke/VarHandle") : (Cond.selects C y y).before args s = true := by
  obtain ⟨c, r, m, h1, -, h3, -, mk, h5, h6⟩ := Cond.selects_spec hz
  obtain ⟨my, methM, hnamed, hmethM, -, -⟩ := Cond.instanceMethod_spec hinst
  have hfound : s.methodFound? y.cls y.name y.desc = some my := State.methodFound?_of_named hnamed hy
  have hcls : my.cls = m.cls := by
    have e1 := findClass_of_methodNamed hnamed
    have e2 := findClass_of_methodNamed h3
    rw [hyz] at e2
    exact Option.some.inj (e1.symm.trans e2)
  have hsel : selectMethod {} s.vm c my = .method my := selectMethod_private hmethM (Cond.privateMethod_at hpriv my methM hnamed hmethM)
  simp only [Cond.before, Cond.holds, Cond.value, h1, hfound, hnamed, hsel, hcls, h5]
  simp; exact h6

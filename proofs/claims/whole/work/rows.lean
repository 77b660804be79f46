section
/-! ===== BEGIN words of one list among another's, by their places ===== -/
theorem goodIn_r {big : List Cond} (ws : List Cond) (ps : List Nat) (hp : ws = ps.filterMap (fun i => big[i]?)) (h : ws.all goodWord = true) : GoodIn big ws := by
  intro w hw
  have h1 := List.all_eq_true.mp h w hw
  rw [hp] at hw
  obtain ⟨i, -, hi⟩ := List.mem_filterMap.mp hw
  have hm : w ∈ big := by first | exact List.mem_of_getElem? hi | exact List.getElem?_mem hi
  exact ⟨hm, good_of_word h1⟩
theorem goodIn_app {big a b : List Cond} (ha : GoodIn big a) (hb : GoodIn big b) : GoodIn big (a ++ b) := fun w h => (List.mem_append.mp h).elim (ha w) (hb w)
theorem goodIn_ca {big a b : List Cond} {c : Cond} (ha : GoodIn big (c :: a)) (hb : GoodIn big b) : GoodIn big (c :: (a ++ b)) := fun w h => (List.mem_cons.mp h).elim (fun e => ha w (List.mem_cons.mpr (Or.inl e))) (fun h => (List.mem_append.mp h).elim (fun h => ha w (List.mem_cons.mpr (Or.inr h))) (hb w))
theorem goodIn_sub {big ws : List Cond} (hm : ∀ w ∈ ws, w ∈ big) (h : ws.all goodWord = true) : GoodIn big ws := fun w hw => ⟨hm w hw, good_of_word (List.all_eq_true.mp h w hw)⟩
/-! ===== END ===== -/

/-! ===== BEGIN new T[n][m]: the outer array a place, the inner ones among the pooled ===== -/
/-- f, but v at every address of l -/
def vr_up {α : Type} (f : Nat → α) (l : List Nat) (v : α) : Nat → α := fun a => if a ∈ l then v else f a
theorem vr_up_in {α : Type} {f : Nat → α} {l : List Nat} {v : α} {a : Nat} (h : a ∈ l) : vr_up f l v a = v := if_pos h
theorem vr_up_ne {α : Type} {f : Nat → α} {l : List Nat} {v : α} {a : Nat} (h : a ∉ l) : vr_up f l v a = f a := if_neg h
theorem vr_rows {L l : List Nat} {f : Nat → va_E} {e : va_E} (h : ∀ a, a ∈ l → a ∉ L) : va_pl L f ++ l.map (fun a => (a, e)) = va_pl (L ++ l) (vr_up f l e) := by
  unfold va_pl
  rw [List.map_append]
  congr 1
  · apply List.map_congr_left
    intro a ha
    rw [vr_up_ne (fun q => h a q ha)]
  · apply List.map_congr_left
    intro a ha
    rw [vr_up_in ha]
theorem vr_lay {X rows : va_W} {x : Nat × va_E} {pl : va_W} {D : va_G} {cl : List vw_C} {H : Heap} (hP : va_P D cl (((X ++ pl) ++ [x]) ++ rows) H) : va_P D cl ((X ++ [x]) ++ (pl ++ rows)) H := by
  rw [List.append_assoc (X ++ pl)] at hP
  have h := va_P.swap hP
  rw [← List.append_assoc X] at h
  have h2 := va_P.swap h
  rw [List.append_assoc (X ++ [x])] at h2
  exact h2
theorem vr_layD {X rows : va_W} {x : Nat × va_E} {pl : va_W} {A : Nat → Prop} (hD : va_D A (((X ++ pl) ++ [x]) ++ rows)) : va_D A ((X ++ [x]) ++ (pl ++ rows)) := by
  rw [List.append_assoc (X ++ pl)] at hD
  have h := va_D.swap hD
  rw [← List.append_assoc X] at h
  have h2 := va_D.swap h
  rw [List.append_assoc (X ++ [x])] at h2
  exact h2
theorem vr_outer (c : ClassId) (N h0 : Nat) : ∀ i : Nat, Jvm.Free.Multi.outerC c N h0 i = arrV c N (fun j => va_rf (if j < i then some (h0 + 1 + j) else none))
  | 0 => by
    show ({ cls := c, slots := Array.replicate N .null, vm := .none } : Cell) = _
    rw [arrV_new]
    refine congrArg (arrV c N) (funext fun j => ?_)
    simp [va_rf]
  | i + 1 => by
    show (Jvm.Free.Multi.outerC c N h0 i).setSlot i (.ref (h0 + 1 + i)) = _
    rw [vr_outer c N h0 i, arrV_store]
    refine congrArg (arrV c N) (funext fun j => ?_)
    by_cases e : j = i
    · subst e
      simp [updV, va_rf]
    · by_cases h : j < i
      · simp [updV, e, h, Nat.lt_succ_of_lt h]
      · simp [updV, e, h, show ¬ j < i + 1 by omega]
def va_AOA (ty : FieldType) (U : State) : Prop := (Cond.arrayOver (.array ty)).before #[] U = true
theorem va_AOA.use {ty : FieldType} {A : Array Value} {U : State} (h : va_AOA ty U) : (Cond.arrayOver (.array ty)).before A U = true := h
section VGM
variable {p : Program} {l : Launch} {e : Env} {R : Room} {s : State} {m : MethodId} {args : Array Value} {below : List Frame} {meth : Method} {c : Code} {H : Heap} {locs : List Loc} {cells slots : Nat} {Q : State → Prop}
variable {cc : ByteArray} {pc : Nat} {ls : Array Slot} {rest : List Value} {D : va_G} {cl : List vw_C} {A : Nat → Prop} {a : Nat} {tys : List (ClassId × FieldType)} {ws : va_W} {H0 : Heap}
theorem va_mna {X : va_W} {L : List Nat} {f : Nat → va_E} {cc : ByteArray} (hexec : p.tables.exec = Jvm.exec) (hb : c.code = cc) {own : String} {index : Nat} {ty : FieldType} {cy : ClassId} (hown : s.vm.findClass own = some m.cls) (hclink : (Cond.classLink own index ("[" ++ (FieldType.array ty).toString)).before args s = true) (hover : va_AOA ty s) (harr : (Cond.arrayClass ty).before args s = true) (hcy : s.vm.findClass (FieldType.array ty).toString = some cy)
    (hK : va_K D cl tys s) (hP : va_P D cl (X ++ va_pl L f) H) (hD : va_D A (X ++ va_pl L f)) (hS : va_S A H0 H locs) (hA : ∀ q, H0.size ≤ q → A q) {n k : Int32} {N' K' : Nat} {z : vp_A} (hn : ¬ n < 0) (hk : ¬ k < 0) (hN : n.toNatClampNeg = N') (hM : k.toNatClampNeg = K')
    (hb1 : N' * 4 ≤ 536870912) (hb2 : K' * componentBytes ty ≤ 536870912) (hb3 : K' ≤ 536870912) (hdf : fits ty (defaultValue ty) = true) (hdd : (defaultValue ty).isDefault = true) (hcells : cells + (1 + N') ≤ R.cells) (hslots : slots + (N' + N' * K') ≤ R.slots) (hz : ∀ c : ClassId, Jvm.Free.Multi.innerC c K' (defaultValue ty) = vp_cell c z) (hdg : decode cc pc = .ok (.multianewarray index 2, 4))
    (kk : ∀ (q : Nat) (r : Nat → Nat) (cA : ClassId) (H1 : Heap), (∀ i j : Nat, i < N' → j < N' → r i = r j → i = j) → (∀ i : Nat, i < N' → r i ∉ L) → va_K D cl (tys ++ [(cA, .array ty)]) s →
      va_P D cl ((X ++ [(q, .inl (cA, N', .inr (.inr (.inr (.inr (fun i => if i < N' then some (r i) else none))))))]) ++ va_pl (L ++ (List.range N').map r) (vr_up f ((List.range N').map r) (.inl (cy, z)))) H1 → va_D A ((X ++ [(q, .inl (cA, N', .inr (.inr (.inr (.inr (fun i => if i < N' then some (r i) else none))))))]) ++ va_pl (L ++ (List.range N').map r) (vr_up f ((List.range N').map r) (.inl (cy, z)))) → va_S A H0 H1 locs →
      W p l e R s m args below meth c H1 locs (cells + 1 + N') (slots + N' + N' * K') Q (F0 m (pc + 4) ls (.ref q :: rest))) : W p l e R s m args below meth c H locs cells slots Q (F0 m pc ls (.int k :: .int n :: rest)) := by
  subst hN
  subst hM
  intro T hT Xs
  obtain ⟨vm₁, cA, comp, -, fA, fC, hO, -, X', step⟩ := Xs.multianewarray2F hexec hown hclink (va_AOA.use hover) harr (g := F0 m pc ls (.int k :: .int n :: rest)) rfl (by rw [hb]; exact hdg) rfl hn hk hb1 hb2 hb3 hdf hdd hcells hslots
  have ec : some cy = some comp := hcy.symm.trans fC
  cases ec
  generalize hF : Jvm.Free.Multi.fill (T.setVm vm₁) cA cy n.toNatClampNeg k.toNatClampNeg (defaultValue ty) n.toNatClampNeg = F at X' step
  have hTh : (T.setVm vm₁).heap = H := hT
  obtain ⟨f1, f2, -, -⟩ := Jvm.Free.Multi.fill_facts (T.setVm vm₁) cA cy n.toNatClampNeg k.toNatClampNeg (defaultValue ty) n.toNatClampNeg
  rw [hF, hTh] at f1 f2
  have hold : ∀ x : Nat, x < H.size → F.heap[x]? = H[x]? := fun x hx => by
    have := Jvm.Free.Multi.fill_old (T.setVm vm₁) cA cy n.toNatClampNeg k.toNatClampNeg (defaultValue ty) (a := x) (by rw [hTh]; exact hx) n.toNatClampNeg
    rw [hF, hTh] at this
    exact this
  have hrow : ∀ j : Nat, j < n.toNatClampNeg → F.heap[H.size + 1 + j]? = some (vp_cell cy z) := fun j hj => by
    have := Jvm.Free.Multi.fill_inner (T.setVm vm₁) cA cy n.toNatClampNeg k.toNatClampNeg (defaultValue ty) n.toNatClampNeg j hj
    rw [hF, hTh, hz] at this
    exact this
  have hout : Jvm.Free.Multi.outerC cA n.toNatClampNeg H.size n.toNatClampNeg = vp_cell cA (n.toNatClampNeg, .inr (.inr (.inr (.inr (fun i => if i < n.toNatClampNeg then some (H.size + 1 + i) else none))))) := by
    rw [vp_cell_q]
    exact vr_outer cA n.toNatClampNeg H.size n.toNatClampNeg
  rw [hout] at f2
  have hlt : ∀ a, a ∈ L → a < H.size := fun a ha => by
    obtain ⟨k9, hk9⟩ := va_pl_get (X := X) (f := f) ha
    exact (hP k9 _ hk9).lt
  have hnl : ∀ i : Nat, i < n.toNatClampNeg → H.size + 1 + i ∉ L := fun i _ h => by
    have := hlt _ h
    omega
  have hnm : ∀ a, a ∈ (List.range n.toNatClampNeg).map (fun i => H.size + 1 + i) → a ∉ L := fun a ha h => by
    obtain ⟨i, -, rfl⟩ := List.mem_map.mp ha
    have := hlt _ h
    omega
  have hP0 : va_P D cl (X ++ va_pl L f) F.heap := hP.kept (fun k9 x hx => hold x.1 ((hP k9 x hx).lt))
  have hP1 : va_P D cl ((X ++ va_pl L f) ++ [(H.size, .inl (cA, n.toNatClampNeg, .inr (.inr (.inr (.inr (fun i => if i < n.toNatClampNeg then some (H.size + 1 + i) else none))))))]) F.heap := hP0.app (fun k9 x hx => by
    have h0 : k9 < 1 := (List.getElem?_eq_some_iff.mp hx).1
    rw [show k9 = 0 by omega] at hx
    cases hx
    exact f2)
  have hP2 : va_P D cl (((X ++ va_pl L f) ++ [(H.size, .inl (cA, n.toNatClampNeg, .inr (.inr (.inr (.inr (fun i => if i < n.toNatClampNeg then some (H.size + 1 + i) else none))))))]) ++ ((List.range n.toNatClampNeg).map (fun i => H.size + 1 + i)).map (fun a => (a, .inl (cy, z)))) F.heap := hP1.app (fun k9 x hx => by
    obtain ⟨a, ha, rfl⟩ := List.mem_map.mp (List.mem_of_getElem? hx)
    obtain ⟨i, hi, rfl⟩ := List.mem_map.mp ha
    exact hrow i (List.mem_range.mp hi))
  have hD2 : va_D A (((X ++ va_pl L f) ++ [(H.size, .inl (cA, n.toNatClampNeg, .inr (.inr (.inr (.inr (fun i => if i < n.toNatClampNeg then some (H.size + 1 + i) else none))))))]) ++ ((List.range n.toNatClampNeg).map (fun i => H.size + 1 + i)).map (fun a => (a, .inl (cy, z)))) := by
    have hD1 := hD.push (e := .inl (cA, n.toNatClampNeg, .inr (.inr (.inr (.inr (fun i => if i < n.toNatClampNeg then some (H.size + 1 + i) else none)))))) hP rfl (hA _ hS.1)
    generalize hW1 : (X ++ va_pl L f) ++ [(H.size, .inl (cA, n.toNatClampNeg, .inr (.inr (.inr (.inr (fun i => if i < n.toNatClampNeg then some (H.size + 1 + i) else none))))))] = W1 at hD1 hP1 ⊢
    have hle : ∀ (k9 : Nat) (x : Nat × va_E), W1[k9]? = some x → x.1 ≤ H.size := fun k9 x hx => by
      rw [← hW1] at hx
      by_cases hl : k9 < (X ++ va_pl L f).length
      · rw [List.getElem?_append_left hl] at hx
        exact Nat.le_of_lt ((hP k9 x hx).lt)
      · rw [List.getElem?_append_right (by omega)] at hx
        have h0 : k9 - (X ++ va_pl L f).length < 1 := (List.getElem?_eq_some_iff.mp hx).1
        rw [show k9 - (X ++ va_pl L f).length = 0 by omega] at hx
        cases hx
        exact Nat.le_refl _
    have hr : ∀ (k9 : Nat) (x : Nat × va_E), (((List.range n.toNatClampNeg).map (fun i => H.size + 1 + i)).map (fun a => ((a, .inl (cy, z)) : Nat × va_E)))[k9]? = some x → x.1 = H.size + 1 + k9 := fun k9 x hx => by
      rw [List.getElem?_map, List.getElem?_map] at hx
      by_cases h9 : k9 < n.toNatClampNeg
      · rw [List.getElem?_range h9] at hx
        cases hx
        rfl
      · have hn0 : (List.range n.toNatClampNeg)[k9]? = none := List.getElem?_eq_none (by rw [List.length_range]; omega)
        rw [hn0] at hx
        cases hx
    refine ⟨fun i j x y hi hj hxy => ?_, fun k9 x hx => ?_⟩
    · by_cases h1 : i < W1.length <;> by_cases h2 : j < W1.length
      · rw [List.getElem?_append_left h1] at hi
        rw [List.getElem?_append_left h2] at hj
        exact hD1.1 i j x y hi hj hxy
      · rw [List.getElem?_append_left h1] at hi
        rw [List.getElem?_append_right (by omega)] at hj
        have := hle _ _ hi
        have := hr _ _ hj
        omega
      · rw [List.getElem?_append_right (by omega)] at hi
        rw [List.getElem?_append_left h2] at hj
        have := hle _ _ hj
        have := hr _ _ hi
        omega
      · rw [List.getElem?_append_right (by omega)] at hi hj
        have := hr _ _ hi
        have := hr _ _ hj
        omega
    · by_cases h1 : k9 < W1.length
      · rw [List.getElem?_append_left h1] at hx
        exact hD1.2 k9 x hx
      · rw [List.getElem?_append_right (by omega)] at hx
        have := hr _ _ hx
        exact hA _ (by have := hS.1; omega)
  have hAr : ArrOfT s cA (.array ty) := fun N9 z9 => by
    obtain ⟨-, k9, hk9, cm9, hkk9⟩ := (hO 0 0 0).1
    exact ⟨(fun q hq => by cases hq), k9, hk9, cm9, hkk9⟩
  have hK2 : va_K D cl (tys ++ [(cA, .array ty)]) s := ⟨hK.1, fun k9 x hx => by
    by_cases hl : k9 < tys.length
    · rw [List.getElem?_append_left hl] at hx
      exact hK.2 k9 x hx
    · rw [List.getElem?_append_right (by omega)] at hx
      have h0 : k9 - tys.length < 1 := (List.getElem?_eq_some_iff.mp hx).1
      rw [show k9 - tys.length = 0 by omega] at hx
      cases hx
      exact ⟨hAr, fA⟩⟩
  obtain ⟨t, a1, b1⟩ := kk H.size (fun i => H.size + 1 + i) cA F.heap (fun i j _ _ h => by have h9 : H.size + 1 + i = H.size + 1 + j := h; omega) hnl hK2 (by rw [← vr_rows hnm]; exact vr_lay hP2) (by rw [← vr_rows hnm]; exact vr_layD hD2) ⟨by rw [f1]; have := hS.1; omega, fun x h1 h2 => (hold x (Nat.lt_of_lt_of_le h1 hS.1)).trans (hS.2.1 x h1 h2), hS.2.2⟩ F rfl X'
  refine ⟨t, step t ?_, b1⟩
  have e : T.heap.size = H.size := by rw [hT]
  rw [e]
  exact a1
end VGM
/-! ===== END ===== -/

/-! ===== BEGIN exceptions that leave a method, and their catching by the caller (launches without stack traces) ===== -/
section VXA
/-! The laws vx_back, vx_callV, vx_callS, vx_callSW, vx_throw0, vx_throwS follow proofs of the library, with one case more: JvmDerived/Free/Laws.lean (Back.of_free), Shelf42/LK1.lean (callV, callS), Shelf/KitTraced.lean (throwNew0V, throwNewS). -/
/-- where a method has thrown q: the class by its name, the cell, what was written, the world -/
def vx_T (XC : String → State → State → Prop) (st : State) (q : Addr) (t : State) (mc ms : Nat) (free : Addr → Prop) : Prop :=
  ∃ (E : String) (ce : Cell) (L : List Loc), XC E st t ∧ t.heap[q]? = some ce ∧ ce.vm = .none ∧ st.vm.findClass E = some ce.cls ∧ st.WarmedH t.vm ∧ st.sameButNew ({ t with vm := st.vm } : State) L mc ms ∧ ∀ z ∈ L, free z.base
def vx_Q (Qc : Array Value → State → Outcome → State → Prop) (XC : String → State → State → Prop) (mc ms : Nat) (free : Addr → Prop) : Array Value → State → Outcome → State → Prop := fun a st o t =>
  (Qc a st o t ∧ ∃ L, FrameEnd st o t L mc ms ∧ ∀ q ∈ L, free q.base) ∨ ∃ q, o = .threw q ∧ vx_T XC st q t mc ms free
/-- a callee that returns or throws -/
def vx_Met (l : Launch) (y : MethodName) (ws : List Cond) (rm : Room) (Pc : Array Value → State → Prop) (Qc : Array Value → State → Outcome → State → Prop) (XC : String → State → State → Prop) (mc ms : Nat) (free : Addr → Prop) : Prop :=
  MetFree l y (headSpec ws rm) Pc (fun _ _ _ _ _ => True) (vx_Q Qc XC mc ms free)
def vx_Post (XC : String → State → State → Prop) (mc ms : Nat) (free : Addr → Prop) : Pt → Array Value → Addr → Pt → Prop := fun A a q B =>
  ∃ (g : JFrame) (mk : MethodId) (t : State) (L : List Loc) (E : String) (ce : Cell), B.U.heap = t.heap ∧ B.U.vm = t.vm ∧ XC E (A.U.calling g mk a) t ∧ t.heap[q]? = some ce ∧ ce.vm = .none ∧ A.U.vm.findClass E = some ce.cls ∧ B.locs = A.locs ++ L ∧ (∀ z ∈ L, free z.base) ∧ B.cells = A.cells + mc ∧ B.slots = A.slots + ms
def vx_Back (l : Launch) (R : Room) (p : Program) (e : Env) (below : List Frame) (s : State) (sargs : Array Value) (y : MethodName) (len W9 : Nat)
    (Pre : Pt → Array Value → Prop) (Post : Pt → Array Value → Option Value → Pt → Prop) (PostX : Pt → Array Value → Addr → Pt → Prop) : Prop :=
  ∀ (m : MethodId) (meth : Method) (c : Code) (A : Pt) (g : JFrame) (ig : Instr) (mk : MethodId) (a : Array Value),
    Stand p l e R s m sargs below meth c A.U A.locs A.cells A.slots → g.method = m → g.locals.size = c.maxLocals → decode c.code g.pc = .ok (ig, len) →
    2 * g.monitorRoom + (g.stack.map fun v => v.category).sum ≤ W9 → A.U.methodNamed? y = some mk → Pre A a →
    (∃ (v : Option Value) (B : Pt), Stand p l e R s m sargs below meth c B.U B.locs B.cells B.slots ∧ Post A a v B ∧
      Steps p.tables e below (doInvoke e (A.U.setTop g) [] mk a).1 (B.U.setTop { g with pc := g.pc + len, stack := v.toList ++ g.stack })) ∨
    (∃ (q : Addr) (B : Pt), Stand p l e R s m sargs below meth c B.U B.locs B.cells B.slots ∧ PostX A a q B ∧
      Steps p.tables e below (doInvoke e (A.U.setTop g) [] mk a).1 ((B.U.setTop g).pushFrame (.throwing q)))
section Payer
variable {l : Launch} {R : Room} {p : Program} {e : Env} {below : List Frame} {s : State} {sargs : Array Value} {y : MethodName} {len W9 : Nat}
theorem vx_back {ws : List Cond} {rm : Room} {Pc : Array Value → State → Prop} {Qc : Array Value → State → Outcome → State → Prop} {XC : String → State → State → Prop} {mc ms : Nat} {free : Addr → Prop} {bytes : ByteArray} {maxL : Nat} {ret : Option FieldType}
    (hM : vx_Met l y ws rm Pc Qc XC mc ms free) (hblind : FrameBlind Pc) (hrc : rm.cells = mc) (hrs : rm.slots = ms)
    (hframes : rm.frames + 1 ≤ R.frames) (hlocals : W9 + (maxL + 11) + rm.locals ≤ R.locals)
    (hws : ∀ w ∈ ws, ∀ a' U, s.WarmedH U.vm → w.before a' U = true) (hcode : Cond.code y bytes maxL ret ∈ ws) (hinit : ∀ a' U, s.WarmedH U.vm → (Cond.initialized y.cls).before a' U = true) :
    vx_Back l R p e below s sargs y len W9 (PreOf R mc ms Pc) (PostOf Qc mc ms free) (vx_Post XC mc ms free) := by
  intro m meth c A g ig mk a X hg hsize hdg hW hn hp
  have h1 : (headSpec ws rm).pre.before a A.U = true := atoms_intro fun w hw => hws w hw _ _ X.warmed
  have h2 : (Cond.code y bytes maxL ret).before a A.U = true := hws _ hcode _ _ X.warmed
  have h3 : (Cond.initialized y.cls).before a A.U = true := hinit _ _ X.warmed
  have h4 : A.cells + (headSpec ws rm).room.cells ≤ R.cells := by rw [show (headSpec ws rm).room.cells = mc from hrc]; exact hp.1
  have h5 : A.slots + (headSpec ws rm).room.slots ≤ R.slots := by rw [show (headSpec ws rm).room.slots = ms from hrs]; exact hp.2.1
  have hPc : Pc a (A.U.calling g mk a) := hblind _ _ _ _ hp.2.2
  obtain ⟨U, Ls, c0, s0⟩ := A
  dsimp only [Pt.U, Pt.locs, Pt.cells, Pt.slots] at h1 h2 h3 h4 h5 X hn hPc ⊢
  obtain ⟨methY, cY, hmY, hcY, -, hlY, -, -, -, -⟩ := Cond.code_spec hn h2
  obtain ⟨kY, hkY, -⟩ := className_of_methodNamed hn
  have hinitY : kY.init = .initialized := Cond.initialized_spec (findClass_of_methodNamed hn) hkY h3
  have h : At U g.method c below := by rw [hg]; exact X.here
  have hlocals9 : W9 + (maxL + 11) + (headSpec ws rm).room.locals ≤ R.locals := hlocals
  have happ : (headSpec ws rm).appliesLoose y e.platform (U.calling g mk a) = true :=
    Spec.appliesLoose_calling (g := g) h hdg hn hkY hinitY
      (X.room_calling (g := g) (R' := (headSpec ws rm).room) hsize hmY hcY hframes (by rw [hlY]; omega) h4 h5) h1
  obtain ⟨mid, hmid⟩ := h.above
  have hfr : (U.setTop g).frames = (.java g :: mid) ++ below := by rw [State.frames_setTop' g h.top, hmid]; rfl
  obtain ⟨o, s₂, hsteps, -, hend, hq⟩ := Steps.callFree hM p X.admits X.cas X.clock (acts := []) hfr happ hPc trivial
  have hq' : vx_Q Qc XC mc ms free a (U.calling g mk a) o s₂ := hq
  rw [State.frames_setTop' g h.top] at hend
  obtain ⟨g₀, hg0⟩ := Option.isSome_iff_exists.mp h.top
  obtain ⟨r, hr⟩ := State.topJava?_eq_some.mp hg0
  have hr' : (({ U with heap := s₂.heap, slotsUsed := s₂.slotsUsed } : State).setVm s₂.vm).frames = .java g₀ :: r := hr
  rcases hq' with ⟨hqc, L, hfe, hL⟩ | ⟨q, rfl, E, ce, L, hx, hce, hcv, hcl, hW₂, hsm, hL⟩
  · obtain ⟨⟨v, rfl⟩, hW₂, e2, q2, q3, q4, q5, q6⟩ := id hfe
    have e3 : s₂ = ({ (U.calling g mk a).setFrames s₂.frames with heap := s₂.heap, slotsUsed := s₂.slotsUsed } : State).setVm s₂.vm := by
      have : s₂ = ({ s₂ with vm := (U.calling g mk a).vm } : State).setVm s₂.vm := rfl
      rw [e2] at this
      exact this
    obtain ⟨c₂, i₂, len₂, hc₂, hd₂, hf₂⟩ := hend
    have hW' : U.WarmedH s₂.vm := hW₂
    have hcc : c₂ = c := by
      have h1 : s₂.code? g.method = U.code? g.method := by
        rw [State.code?_eq, State.code?_eq, hW'.alike.method?]
      exact Option.some.inj (hc₂.symm.trans (h1.trans h.code))
    subst hcc
    have hlen : len₂ = len := by rw [hdg] at hd₂; cases hd₂; rfl
    subst hlen
    have hs₂ : s₂ = (({ U with heap := s₂.heap, slotsUsed := s₂.slotsUsed } : State).setVm s₂.vm).setTop { g with pc := g.pc + len₂, stack := v.toList ++ g.stack } := by
      refine e3.trans ?_
      rw [hf₂, State.calling_eq h.top, State.setFrames_setFrames, State.setTop_of_frames _ hr', hr]
      rfl
    have hsame : U.sameButNew ({ U with heap := s₂.heap, slotsUsed := s₂.slotsUsed } : State) L mc ms := by
      refine ⟨?_, q2, q3, q4, q5, q6⟩
      obtain ⟨t, ht, -⟩ := State.frames_cons hr
      show ({ U with heap := s₂.heap, slotsUsed := s₂.slotsUsed } : State) = { U.setFrames U.frames with heap := s₂.heap, slotsUsed := s₂.slotsUsed }
      rw [State.setFrames_self ht]
    subst hg
    refine Or.inl ⟨v, ⟨(({ U with heap := s₂.heap, slotsUsed := s₂.slotsUsed } : State).setVm s₂.vm), Ls ++ L, c0 + mc, s0 + ms⟩,
      ⟨X.admits, X.cas, X.clock, X.frames, X.room, X.hears, X.method, X.code, (X.here.setHeapUsed s₂.heap s₂.slotsUsed).setVm hW'.alike, X.tail, State.WarmedH.trans X.warmed hW', X.limits, X.bytes, X.same.trans (hsame.setVm s.vm)⟩,
      ⟨g, mk, s₂, L, rfl, rfl, hqc, rfl, hL, rfl, rfl⟩, ?_⟩
    show Steps p.tables e below _ ((({ U with heap := s₂.heap, slotsUsed := s₂.slotsUsed } : State).setVm s₂.vm).setTop { g with pc := g.pc + len₂, stack := v.toList ++ g.stack })
    rw [← hs₂]
    exact hsteps
  · obtain ⟨e2, q2, q3, q4, q5, q6⟩ := id hsm
    have e3 : s₂ = ({ (U.calling g mk a).setFrames s₂.frames with heap := s₂.heap, slotsUsed := s₂.slotsUsed } : State).setVm s₂.vm := by
      have : s₂ = ({ s₂ with vm := (U.calling g mk a).vm } : State).setVm s₂.vm := rfl
      rw [e2] at this
      exact this
    have hf₂ : s₂.frames = .throwing q :: .java g :: U.frames.tail := hend
    have hW' : U.WarmedH s₂.vm := hW₂
    have hs₂ : s₂ = ((({ U with heap := s₂.heap, slotsUsed := s₂.slotsUsed } : State).setVm s₂.vm).setTop g).pushFrame (.throwing q) := by
      refine e3.trans ?_
      rw [hf₂, State.calling_eq h.top, State.setFrames_setFrames, State.pushFrame, State.frames_setTop _ hr', State.setTop_of_frames _ hr', State.setFrames_setFrames, hr]
      rfl
    have hsame : U.sameButNew ({ U with heap := s₂.heap, slotsUsed := s₂.slotsUsed } : State) L mc ms := by
      refine ⟨?_, q2, q3, q4, q5, q6⟩
      obtain ⟨t, ht, -⟩ := State.frames_cons hr
      show ({ U with heap := s₂.heap, slotsUsed := s₂.slotsUsed } : State) = { U.setFrames U.frames with heap := s₂.heap, slotsUsed := s₂.slotsUsed }
      rw [State.setFrames_self ht]
    subst hg
    refine Or.inr ⟨q, ⟨(({ U with heap := s₂.heap, slotsUsed := s₂.slotsUsed } : State).setVm s₂.vm), Ls ++ L, c0 + mc, s0 + ms⟩,
      ⟨X.admits, X.cas, X.clock, X.frames, X.room, X.hears, X.method, X.code, (X.here.setHeapUsed s₂.heap s₂.slotsUsed).setVm hW'.alike, X.tail, State.WarmedH.trans X.warmed hW', X.limits, X.bytes, X.same.trans (hsame.setVm s.vm)⟩,
      ⟨g, mk, s₂, L, E, ce, rfl, rfl, hx, hce, hcv, hcl, rfl, hL, rfl, rfl⟩, ?_⟩
    show Steps p.tables e below _ (((({ U with heap := s₂.heap, slotsUsed := s₂.slotsUsed } : State).setVm s₂.vm).setTop g).pushFrame (.throwing q))
    rw [← hs₂]
    exact hsteps
end Payer
section Calls
variable {p : Program} {l : Launch} {e : Env} {R : Room} {s : State} {m : MethodId} {args : Array Value} {below : List Frame} {meth : Method} {c : Code} {T : State} {locs : List Loc} {cells slots : Nat}
theorem vx_callV (X : Stand p l e R s m args below meth c T locs cells slots) (hexec : p.tables.exec = Jvm.exec) {own C : String} {index : Nat} {y : MethodName} {bytes : ByteArray} {maxL : Nat} {ret : Option FieldType}
    (hown : s.vm.findClass own = some m.cls) (hlink : (Cond.methodLink own index y).before args s = true) (hinst : (Cond.instanceMethod y).before args s = true) (hsel : (Cond.selects C y y).before args s = true)
    (hcode : (Cond.code y bytes maxL ret).before args s = true) (hy : y.cls ≠ "java/lang/invoke/MethodHandle" ∧ y.cls ≠ "java/lang/invoke/VarHandle")
    {W9 : Nat} {Pre : Pt → Array Value → Prop} {Post : Pt → Array Value → Option Value → Pt → Prop} {PostX : Pt → Array Value → Addr → Pt → Prop} (hK : vx_Back l R p e below s args y 3 W9 Pre Post PostX)
    {b : Addr} {cellB : Cell} (hcell : T.heap[b]? = some cellB) (hobj : cellB.vm.isStatics = false) (hcls : s.vm.findClass C = some cellB.cls)
    {g : JFrame} (hg : g.method = m) (hsize : g.locals.size = c.maxLocals) {argsL rest : List Value} (hlen : ∀ sig, parseMethodDescriptor y.desc = some sig → argsL.length = sig.parameters.length)
    (hstack : g.stack = argsL.reverse ++ .ref b :: rest) (hW : 2 * g.monitorRoom + (rest.map fun v => v.category).sum ≤ W9) (hdg : decode c.code g.pc = .ok (.invokevirtual index, 3))
    (hpre : ∀ vm₁, s.WarmedH vm₁ → Pre ⟨T.setVm vm₁, locs, cells, slots⟩ (Value.ref b :: argsL).toArray) :
    (∃ (v : Option Value) (vm₁ : Vm) (B : Pt), s.WarmedH vm₁ ∧ Stand p l e R s m args below meth c B.U B.locs B.cells B.slots ∧ Post ⟨T.setVm vm₁, locs, cells, slots⟩ (Value.ref b :: argsL).toArray v B ∧
      ∀ target, Steps p.tables e below (B.U.setTop { g with pc := g.pc + 3, stack := v.toList ++ rest }) target → Steps p.tables e below (T.setTop g) target) ∨
    (∃ (q : Addr) (vm₁ : Vm) (B : Pt), s.WarmedH vm₁ ∧ Stand p l e R s m args below meth c B.U B.locs B.cells B.slots ∧ PostX ⟨T.setVm vm₁, locs, cells, slots⟩ (Value.ref b :: argsL).toArray q B ∧
      Steps p.tables e below (T.setTop g) ((B.U.setTop { g with stack := rest }).pushFrame (.throwing q))) := by
  obtain ⟨mk, methM, hnamed, hmethM, hstM, habM⟩ := Cond.instanceMethod_spec hinst
  obtain ⟨methM', cM, hmethM', -, -, -, -, -, -, hsigM⟩ := Cond.code_spec hnamed hcode
  cases hmethM.symm.trans hmethM'
  obtain ⟨c2, r2, m2, q1, q2, q3, q4, kP, hkP, hkPi⟩ := Cond.selects_spec hsel
  cases hcls.symm.trans q1
  cases (State.methodFound?_of_named hnamed hy).symm.trans q2
  cases hnamed.symm.trans q3
  have hselP : selectMethod e.platform s.vm cellB.cls mk = .method mk := by rw [Launch.admits_selectMethod X.admits]; exact q4
  obtain ⟨vm₁, X₁, hstep₁⟩ := X.invokevirtual hexec hown hlink hnamed hmethM hstM hkP hkPi hy (a := b) (cell := cellB) hcell
    (fun z h => by rw [h] at hobj; cases hobj) hselP hmethM habM hkP hkPi (g := g) hg (argsL := argsL) (rest := rest) (hlen _ hsigM) hstack hdg
  rcases hK m meth c ⟨T.setVm vm₁, locs, cells, slots⟩ { g with stack := rest } (.invokevirtual index) mk (Value.ref b :: argsL).toArray X₁ hg hsize hdg hW (X₁.named hnamed) (hpre vm₁ X₁.warmed) with ⟨v, B, X', hpost, hsteps⟩ | ⟨q, B, X', hpost, hsteps⟩
  · exact Or.inl ⟨v, vm₁, B, X₁.warmed, X', hpost, fun target h => hstep₁ _ fun acts => by rw [doInvoke_state]; exact hsteps.trans h⟩
  · exact Or.inr ⟨q, vm₁, B, X₁.warmed, X', hpost, hstep₁ _ fun acts => by rw [doInvoke_state]; exact hsteps⟩
theorem vx_callS (X : Stand p l e R s m args below meth c T locs cells slots) (hexec : p.tables.exec = Jvm.exec) {own : String} {index : Nat} {y : MethodName} {bytes : ByteArray} {maxL : Nat} {ret : Option FieldType}
    (hown : s.vm.findClass own = some m.cls) (hlink : (Cond.methodLink own index y).before args s = true) (hstat : (Cond.static y).before args s = true) (hinit : (Cond.initialized y.cls).before args s = true)
    (hcode : (Cond.code y bytes maxL ret).before args s = true) (hy : y.cls ≠ "java/lang/invoke/MethodHandle" ∧ y.cls ≠ "java/lang/invoke/VarHandle")
    {W9 : Nat} {Pre : Pt → Array Value → Prop} {Post : Pt → Array Value → Option Value → Pt → Prop} {PostX : Pt → Array Value → Addr → Pt → Prop} (hK : vx_Back l R p e below s args y 3 W9 Pre Post PostX)
    {g : JFrame} (hg : g.method = m) (hsize : g.locals.size = c.maxLocals) {argsL rest : List Value} (hlen : ∀ sig, parseMethodDescriptor y.desc = some sig → argsL.length = sig.parameters.length)
    (hstack : g.stack = argsL.reverse ++ rest) (hW : 2 * g.monitorRoom + (rest.map fun v => v.category).sum ≤ W9) (hdg : decode c.code g.pc = .ok (.invokestatic index, 3))
    (hpre : ∀ vm₁, s.WarmedH vm₁ → Pre ⟨T.setVm vm₁, locs, cells, slots⟩ argsL.toArray) :
    (∃ (v : Option Value) (vm₁ : Vm) (B : Pt), s.WarmedH vm₁ ∧ Stand p l e R s m args below meth c B.U B.locs B.cells B.slots ∧ Post ⟨T.setVm vm₁, locs, cells, slots⟩ argsL.toArray v B ∧
      ∀ target, Steps p.tables e below (B.U.setTop { g with pc := g.pc + 3, stack := v.toList ++ rest }) target → Steps p.tables e below (T.setTop g) target) ∨
    (∃ (q : Addr) (vm₁ : Vm) (B : Pt), s.WarmedH vm₁ ∧ Stand p l e R s m args below meth c B.U B.locs B.cells B.slots ∧ PostX ⟨T.setVm vm₁, locs, cells, slots⟩ argsL.toArray q B ∧
      Steps p.tables e below (T.setTop g) ((B.U.setTop { g with stack := rest }).pushFrame (.throwing q))) := by
  obtain ⟨mk, hnamed⟩ := Cond.code_named hcode
  obtain ⟨methM, cM, hmethM, -, -, -, -, -, -, hsigM⟩ := Cond.code_spec hnamed hcode
  have hstatic : methM.isStatic = true := Cond.static_spec hnamed hmethM hstat
  obtain ⟨kP, hkP, -⟩ := className_of_methodNamed hnamed
  have hinitP : kP.init = .initialized := Cond.initialized_spec (findClass_of_methodNamed hnamed) hkP hinit
  obtain ⟨vm₁, X₁, hstep₁⟩ := X.invokestatic hexec hown hlink hnamed hmethM hstatic hkP hinitP hy (g := g) hg (argsL := argsL) (rest := rest) (hlen _ hsigM) hstack hdg
  rcases hK m meth c ⟨T.setVm vm₁, locs, cells, slots⟩ { g with stack := rest } (.invokestatic index) mk argsL.toArray X₁ hg hsize hdg hW (X₁.named hnamed) (hpre vm₁ X₁.warmed) with ⟨v, B, X', hpost, hsteps⟩ | ⟨q, B, X', hpost, hsteps⟩
  · exact Or.inl ⟨v, vm₁, B, X₁.warmed, X', hpost, fun target h => hstep₁ _ fun acts => by rw [doInvoke_state]; exact hsteps.trans h⟩
  · exact Or.inr ⟨q, vm₁, B, X₁.warmed, X', hpost, hstep₁ _ fun acts => by rw [doInvoke_state]; exact hsteps⟩
end Calls
theorem vx_cls {s : State} {T : State} {vm₁ : Vm} {E : String} {k : ClassId} (hW : s.WarmedH vm₁) (h : (T.setVm vm₁).vm.findClass E = some k) : s.vm.findClass E = some k := by
  have h1 : vm₁.findClass E = some k := h
  rw [hW.alike.findClass] at h1
  exact h1
/-- the method's frame g, with q thrown over it -/
def vx_W (p : Program) (l : Launch) (e : Env) (R : Room) (s : State) (m : MethodId) (args : Array Value) (below : List Frame) (meth : Method) (c : Code) (H : Heap) (locs : List Loc) (cells slots : Nat) (Q : State → Prop) (g : JFrame) (q : Addr) : Prop :=
  ∀ T : State, T.heap = H → Stand p l e R s m args below meth c T locs cells slots → ∃ t, Steps p.tables e below ((T.setTop g).pushFrame (.throwing q)) t ∧ Q t
def vx_Run (p : Program) (l : Launch) (e : Env) (R : Room) (s : State) (m : MethodId) (args : Array Value) (below : List Frame) (meth : Method) (c : Code) (H : Heap) (locs : List Loc) (cells slots mc ms : Nat) (g : JFrame) (rest : List Value) (Qa : State → Outcome → State → Prop) (XC : String → State → State → Prop) (free : Addr → Prop) : Prop :=
  ∀ T : State, T.heap = H → Stand p l e R s m args below meth c T locs cells slots →
    (∃ (v : Option Value) (st₀ t T' : State) (L : List Loc), st₀.heap = H ∧ Stand p l e R s m args below meth c T' (locs ++ L) (cells + mc) (slots + ms) ∧ (∀ q ∈ L, free q.base) ∧ T'.heap = t.heap ∧ T'.vm = t.vm ∧ Qa st₀ (.returned v) t ∧
      Goes p e below T g T' { g with pc := g.pc + 3, stack := v.toList ++ rest }) ∨
    (∃ (q : Addr) (st₀ t T' : State) (L : List Loc) (E : String) (ce : Cell), st₀.heap = H ∧ Stand p l e R s m args below meth c T' (locs ++ L) (cells + mc) (slots + ms) ∧ (∀ z ∈ L, free z.base) ∧ T'.heap = t.heap ∧ T'.vm = t.vm ∧ XC E st₀ t ∧ t.heap[q]? = some ce ∧ ce.vm = .none ∧ s.vm.findClass E = some ce.cls ∧
      Steps p.tables e below (T.setTop g) ((T'.setTop { g with stack := rest }).pushFrame (.throwing q)))
def vx_X {S : Type} (px : S → Prop) (B : String → S → State → Prop) (A : Nat → Prop) : String → State → State → Prop := fun E st t => ∃ u : S, px u ∧ B E u t ∧ va_F A st t
section Runs
variable {p : Program} {l : Launch} {e : Env} {R : Room} {s : State} {m : MethodId} {args : Array Value} {below : List Frame} {meth : Method} {c : Code} {H : Heap} {locs : List Loc} {cells slots : Nat}
variable {y : MethodName} {bytes cc : ByteArray} {maxL nL mc ms n index : Nat} {ret : Option FieldType} {ws : List Cond} {rm : Room} {Pc : Array Value → State → Prop} {Qc : Array Value → State → Outcome → State → Prop} {XC : String → State → State → Prop} {free : Addr → Prop} {Ts : List Cond} {own C : String} {b : Addr} {As rest : List Value} {g : JFrame}
theorem vx_callBack (cb : CallB R s args own index y bytes maxL ret ws rm mc ms n) (hM : vx_Met l y ws rm Pc Qc XC mc ms free) (hbl : FrameBlind Pc) : vx_Back l R p e below s args y 3 8 (PreOf R mc ms Pc) (PostOf Qc mc ms free) (vx_Post XC mc ms free) := by
  obtain ⟨hrc, hrs, hfr, hlo, hws, hcw, -, hini, -⟩ := cb
  exact vx_back (bytes := bytes) (maxL := maxL) (ret := ret) hM hbl hrc hrs hfr hlo hws hcw (fun a' U hW => word_at hW (Or.inl (by first | rfl | simp [Cond.onTables, Cond.keeps, Cond.steady])) hini)
theorem vx_runV (S : CallFix p m c cc nL s args Ts own) (hM : vx_Met l y ws rm Pc Qc XC mc ms free) (cw : CallW R s args own C index y bytes maxL ret ws rm mc ms n) (hp : PreV s H C b Pc As)
    (hg : g.method = m) (hn : As.length = n) (hsize : g.locals.size = nL) (hstack : g.stack = As.reverse ++ .ref b :: rest) (hW : 2 * g.monitorRoom + (rest.map fun v => v.category).sum ≤ 8) (hdg : decode cc g.pc = .ok (.invokevirtual index, 3)) (hf : cells + mc ≤ R.cells ∧ slots + ms ≤ R.slots) :
    vx_Run p l e R s m args below meth c H locs cells slots mc ms g rest (Qc (Value.ref b :: As).toArray) XC free := by
  have hK : vx_Back l R p e below s args y 3 8 (PreOf R mc ms Pc) (PostOf Qc mc ms free) (vx_Post XC mc ms free) := vx_callBack cw.1 hM hp.1
  obtain ⟨⟨-, -, -, -, -, -, hcode, -, hy, hlen, hl⟩, hin, hse⟩ := cw
  obtain ⟨hx, hb, hml, ho, -⟩ := S
  obtain ⟨-, ⟨cellB, hcB, hoB, hclB⟩, hPc⟩ := hp
  intro T hT X
  rcases vx_callV X hx (C := C) (bytes := bytes) (maxL := maxL) (ret := ret) ho hl hin hse hcode hy hK (by rw [hT]; exact hcB) hoB hclB hg (hsize.trans hml.symm) (argsL := As) (rest := rest) (fun sig h => hn.trans (hlen sig h)) hstack hW (by rw [hb]; exact hdg)
    (fun vm₁ hW₁ => ⟨hf.1, hf.2, hPc (T.setVm vm₁) hT hW₁⟩) with ⟨v, vm₁, ⟨U', l2, c2, s2⟩, hW₁, X', ⟨g', mk, t, L, e1, e2, hq, h1, hL, h2, h3⟩, st⟩ | ⟨q, vm₁, ⟨U', l2, c2, s2⟩, hW₁, X', ⟨g', mk, t, L, E, ce, e1, e2, hq, hce, hcv, hcl, h1, hL, h2, h3⟩, st⟩
  · dsimp only [Pt.U, Pt.locs, Pt.cells, Pt.slots] at X' e1 e2 h1 h2 h3 st
    subst h1; subst h2; subst h3
    exact Or.inl ⟨v, (T.setVm vm₁).calling g' mk (Value.ref b :: As).toArray, t, U', L, hT, X', hL, e1, e2, hq, st⟩
  · dsimp only [Pt.U, Pt.locs, Pt.cells, Pt.slots] at X' e1 e2 h1 h2 h3 st hcl
    subst h1; subst h2; subst h3
    exact Or.inr ⟨q, (T.setVm vm₁).calling g' mk (Value.ref b :: As).toArray, t, U', L, E, ce, hT, X', hL, e1, e2, hq, hce, hcv, vx_cls hW₁ hcl, st⟩
theorem vx_runS (S : CallFix p m c cc nL s args Ts own) (hM : vx_Met l y ws rm Pc Qc XC mc ms free) (cw : CallB R s args own index y bytes maxL ret ws rm mc ms n ∧ (Cond.static y).before args s = true) (hp : PreS s H Pc As)
    (hg : g.method = m) (hn : As.length = n) (hsize : g.locals.size = nL) (hstack : g.stack = As.reverse ++ rest) (hW : 2 * g.monitorRoom + (rest.map fun v => v.category).sum ≤ 8) (hdg : decode cc g.pc = .ok (.invokestatic index, 3)) (hf : cells + mc ≤ R.cells ∧ slots + ms ≤ R.slots) :
    vx_Run p l e R s m args below meth c H locs cells slots mc ms g rest (Qc As.toArray) XC free := by
  have hK : vx_Back l R p e below s args y 3 8 (PreOf R mc ms Pc) (PostOf Qc mc ms free) (vx_Post XC mc ms free) := vx_callBack cw.1 hM hp.1
  obtain ⟨⟨-, -, -, -, -, -, hcode, hini, hy, hlen, hl⟩, hstt⟩ := cw
  obtain ⟨hx, hb, hml, ho, -⟩ := S
  intro T hT X
  rcases vx_callS X hx (bytes := bytes) (maxL := maxL) (ret := ret) ho hl hstt hini hcode hy hK hg (hsize.trans hml.symm) (argsL := As) (rest := rest) (fun sig h => hn.trans (hlen sig h)) hstack hW (by rw [hb]; exact hdg)
    (fun vm₁ hW₁ => ⟨hf.1, hf.2, hp.2 (T.setVm vm₁) hT hW₁⟩) with ⟨v, vm₁, ⟨U', l2, c2, s2⟩, hW₁, X', ⟨g', mk, t, L, e1, e2, hq, h1, hL, h2, h3⟩, st⟩ | ⟨q, vm₁, ⟨U', l2, c2, s2⟩, hW₁, X', ⟨g', mk, t, L, E, ce, e1, e2, hq, hce, hcv, hcl, h1, hL, h2, h3⟩, st⟩
  · dsimp only [Pt.U, Pt.locs, Pt.cells, Pt.slots] at X' e1 e2 h1 h2 h3 st
    subst h1; subst h2; subst h3
    exact Or.inl ⟨v, (T.setVm vm₁).calling g' mk As.toArray, t, U', L, hT, X', hL, e1, e2, hq, st⟩
  · dsimp only [Pt.U, Pt.locs, Pt.cells, Pt.slots] at X' e1 e2 h1 h2 h3 st hcl
    subst h1; subst h2; subst h3
    exact Or.inr ⟨q, (T.setVm vm₁).calling g' mk As.toArray, t, U', L, E, ce, hT, X', hL, e1, e2, hq, hce, hcv, vx_cls hW₁ hcl, st⟩
end Runs
section Rows
variable {p : Program} {l : Launch} {e : Env} {R : Room} {s : State} {m : MethodId} {args : Array Value} {below : List Frame} {meth : Method} {c : Code} {H : Heap} {locs : List Loc} {cells slots : Nat} {Q : State → Prop}
variable {mc ms : Nat} {free : Addr → Prop} {A0 A1 : Nat → Prop} {H0 : Heap} {a : Array Value} {pc : Nat} {ls : Array Slot} {st0 rest : List Value}
theorem vx_keep {st₀ t T' : State} {L : List Loc} (h0 : st₀.heap = H) (e1 : T'.heap = t.heap) (hS : va_S A0 H0 H locs) (hA : ∀ q, q < H.size → A1 q → A0 q) (hf : ∀ q, free q → A0 q) (hL : ∀ q ∈ L, free q.base) (hF : va_F A1 st₀ t) :
    H.size ≤ T'.heap.size ∧ (∀ q : Nat, q < H.size → ¬ A1 q → T'.heap[q]? = H[q]?) ∧ va_S A0 H0 T'.heap (locs ++ L) := by
  obtain ⟨hz, hk⟩ := hF
  rw [h0] at hz hk
  exact ⟨by rw [e1]; exact hz, fun q h1 h2 => by rw [e1]; exact hk q h1 h2,
    ⟨Nat.le_trans hS.1 (by rw [e1]; exact hz), fun q h1 h2 => by rw [e1, hk q (Nat.lt_of_lt_of_le h1 hS.1) (fun z => h2 (hA q (Nat.lt_of_lt_of_le h1 hS.1) z))]; exact hS.2.1 q h1 h2, fun q hq => by
      rcases List.mem_append.mp hq with h | h
      · exact hS.2.2 q h
      · exact hf _ (hL q h)⟩⟩
theorem vx_calli {S SX : Type} {post : Int32 → S → Prop} {px : SX → Prop} {B : S → State → Prop} {BX : String → SX → State → Prop} {AX : Nat → Prop} (hr : vx_Run p l e R s m args below meth c H locs cells slots mc ms (F0 m pc ls st0) rest (va_Qi post B A1 a) (vx_X px BX AX) free) (hS : va_S A0 H0 H locs) (hA : ∀ q, q < H.size → A1 q → A0 q) (hf : ∀ q, free q → A0 q) (hAX : ∀ q, q < H.size → AX q → A0 q)
    (kx : ∀ (E : String) (ce : Cell) (q9 : Addr) (u : SX) (t : State) (H1 : Heap) (locs1 : List Loc), t.heap = H1 → s.vm.Alike t.vm → px u → BX E u t → H.size ≤ H1.size → (∀ q : Nat, q < H.size → ¬ AX q → H1[q]? = H[q]?) → va_S A0 H0 H1 locs1 → H1[q9]? = some ce → ce.vm = .none → s.vm.findClass E = some ce.cls → vx_W p l e R s m args below meth c H1 locs1 (cells + mc) (slots + ms) Q (F0 m pc ls rest) q9)
    (kk : ∀ (r : Int32) (u : S) (t : State) (H1 : Heap) (locs1 : List Loc), t.heap = H1 → s.vm.Alike t.vm → post r u → B u t → H.size ≤ H1.size → (∀ q : Nat, q < H.size → ¬ A1 q → H1[q]? = H[q]?) → va_S A0 H0 H1 locs1 → W p l e R s m args below meth c H1 locs1 (cells + mc) (slots + ms) Q (F0 m (pc + 3) ls (.int r :: rest))) : W p l e R s m args below meth c H locs cells slots Q (F0 m pc ls st0) := by
  intro T hT X
  rcases hr T hT X with ⟨v, st₀, t, T', L, h0, X', hL, e1, e2, ⟨⟨r, u, hv, hp, hb⟩, hF⟩, st⟩ | ⟨q, st₀, t, T', L, E, ce, h0, X', hL, e1, e2, ⟨u, hp, hb, hF⟩, hce, hcv, hcl, st⟩
  · cases hv
    obtain ⟨k1, k2, k3⟩ := vx_keep h0 e1 hS hA hf hL hF
    obtain ⟨t2, a1, b1⟩ := kk r u t T'.heap (locs ++ L) e1.symm (by rw [← e2]; exact X'.warmed.alike) hp hb k1 k2 k3 T' rfl X'
    exact ⟨t2, st t2 a1, b1⟩
  · obtain ⟨k1, k2, k3⟩ := vx_keep h0 e1 hS hAX hf hL hF
    obtain ⟨t2, a1, b1⟩ := kx E ce q u t T'.heap (locs ++ L) e1.symm (by rw [← e2]; exact X'.warmed.alike) hp hb k1 k2 k3 (by rw [e1]; exact hce) hcv hcl T' rfl X'
    exact ⟨t2, st.trans a1, b1⟩
theorem vx_calll {S SX : Type} {post : Int64 → S → Prop} {px : SX → Prop} {B : S → State → Prop} {BX : String → SX → State → Prop} {AX : Nat → Prop} (hr : vx_Run p l e R s m args below meth c H locs cells slots mc ms (F0 m pc ls st0) rest (va_Ql post B A1 a) (vx_X px BX AX) free) (hS : va_S A0 H0 H locs) (hA : ∀ q, q < H.size → A1 q → A0 q) (hf : ∀ q, free q → A0 q) (hAX : ∀ q, q < H.size → AX q → A0 q)
    (kx : ∀ (E : String) (ce : Cell) (q9 : Addr) (u : SX) (t : State) (H1 : Heap) (locs1 : List Loc), t.heap = H1 → s.vm.Alike t.vm → px u → BX E u t → H.size ≤ H1.size → (∀ q : Nat, q < H.size → ¬ AX q → H1[q]? = H[q]?) → va_S A0 H0 H1 locs1 → H1[q9]? = some ce → ce.vm = .none → s.vm.findClass E = some ce.cls → vx_W p l e R s m args below meth c H1 locs1 (cells + mc) (slots + ms) Q (F0 m pc ls rest) q9)
    (kk : ∀ (r : Int64) (u : S) (t : State) (H1 : Heap) (locs1 : List Loc), t.heap = H1 → s.vm.Alike t.vm → post r u → B u t → H.size ≤ H1.size → (∀ q : Nat, q < H.size → ¬ A1 q → H1[q]? = H[q]?) → va_S A0 H0 H1 locs1 → W p l e R s m args below meth c H1 locs1 (cells + mc) (slots + ms) Q (F0 m (pc + 3) ls (.long r :: rest))) : W p l e R s m args below meth c H locs cells slots Q (F0 m pc ls st0) := by
  intro T hT X
  rcases hr T hT X with ⟨v, st₀, t, T', L, h0, X', hL, e1, e2, ⟨⟨r, u, hv, hp, hb⟩, hF⟩, st⟩ | ⟨q, st₀, t, T', L, E, ce, h0, X', hL, e1, e2, ⟨u, hp, hb, hF⟩, hce, hcv, hcl, st⟩
  · cases hv
    obtain ⟨k1, k2, k3⟩ := vx_keep h0 e1 hS hA hf hL hF
    obtain ⟨t2, a1, b1⟩ := kk r u t T'.heap (locs ++ L) e1.symm (by rw [← e2]; exact X'.warmed.alike) hp hb k1 k2 k3 T' rfl X'
    exact ⟨t2, st t2 a1, b1⟩
  · obtain ⟨k1, k2, k3⟩ := vx_keep h0 e1 hS hAX hf hL hF
    obtain ⟨t2, a1, b1⟩ := kx E ce q u t T'.heap (locs ++ L) e1.symm (by rw [← e2]; exact X'.warmed.alike) hp hb k1 k2 k3 (by rw [e1]; exact hce) hcv hcl T' rfl X'
    exact ⟨t2, st.trans a1, b1⟩
theorem vx_callf {S SX : Type} {post : UInt32 → S → Prop} {px : SX → Prop} {B : S → State → Prop} {BX : String → SX → State → Prop} {AX : Nat → Prop} (hr : vx_Run p l e R s m args below meth c H locs cells slots mc ms (F0 m pc ls st0) rest (va_Qf post B A1 a) (vx_X px BX AX) free) (hS : va_S A0 H0 H locs) (hA : ∀ q, q < H.size → A1 q → A0 q) (hf : ∀ q, free q → A0 q) (hAX : ∀ q, q < H.size → AX q → A0 q)
    (kx : ∀ (E : String) (ce : Cell) (q9 : Addr) (u : SX) (t : State) (H1 : Heap) (locs1 : List Loc), t.heap = H1 → s.vm.Alike t.vm → px u → BX E u t → H.size ≤ H1.size → (∀ q : Nat, q < H.size → ¬ AX q → H1[q]? = H[q]?) → va_S A0 H0 H1 locs1 → H1[q9]? = some ce → ce.vm = .none → s.vm.findClass E = some ce.cls → vx_W p l e R s m args below meth c H1 locs1 (cells + mc) (slots + ms) Q (F0 m pc ls rest) q9)
    (kk : ∀ (r : UInt32) (u : S) (t : State) (H1 : Heap) (locs1 : List Loc), t.heap = H1 → s.vm.Alike t.vm → post r u → B u t → H.size ≤ H1.size → (∀ q : Nat, q < H.size → ¬ A1 q → H1[q]? = H[q]?) → va_S A0 H0 H1 locs1 → W p l e R s m args below meth c H1 locs1 (cells + mc) (slots + ms) Q (F0 m (pc + 3) ls (.float r :: rest))) : W p l e R s m args below meth c H locs cells slots Q (F0 m pc ls st0) := by
  intro T hT X
  rcases hr T hT X with ⟨v, st₀, t, T', L, h0, X', hL, e1, e2, ⟨⟨r, u, hv, hp, hb⟩, hF⟩, st⟩ | ⟨q, st₀, t, T', L, E, ce, h0, X', hL, e1, e2, ⟨u, hp, hb, hF⟩, hce, hcv, hcl, st⟩
  · cases hv
    obtain ⟨k1, k2, k3⟩ := vx_keep h0 e1 hS hA hf hL hF
    obtain ⟨t2, a1, b1⟩ := kk r u t T'.heap (locs ++ L) e1.symm (by rw [← e2]; exact X'.warmed.alike) hp hb k1 k2 k3 T' rfl X'
    exact ⟨t2, st t2 a1, b1⟩
  · obtain ⟨k1, k2, k3⟩ := vx_keep h0 e1 hS hAX hf hL hF
    obtain ⟨t2, a1, b1⟩ := kx E ce q u t T'.heap (locs ++ L) e1.symm (by rw [← e2]; exact X'.warmed.alike) hp hb k1 k2 k3 (by rw [e1]; exact hce) hcv hcl T' rfl X'
    exact ⟨t2, st.trans a1, b1⟩
theorem vx_calld {S SX : Type} {post : UInt64 → S → Prop} {px : SX → Prop} {B : S → State → Prop} {BX : String → SX → State → Prop} {AX : Nat → Prop} (hr : vx_Run p l e R s m args below meth c H locs cells slots mc ms (F0 m pc ls st0) rest (va_Qd post B A1 a) (vx_X px BX AX) free) (hS : va_S A0 H0 H locs) (hA : ∀ q, q < H.size → A1 q → A0 q) (hf : ∀ q, free q → A0 q) (hAX : ∀ q, q < H.size → AX q → A0 q)
    (kx : ∀ (E : String) (ce : Cell) (q9 : Addr) (u : SX) (t : State) (H1 : Heap) (locs1 : List Loc), t.heap = H1 → s.vm.Alike t.vm → px u → BX E u t → H.size ≤ H1.size → (∀ q : Nat, q < H.size → ¬ AX q → H1[q]? = H[q]?) → va_S A0 H0 H1 locs1 → H1[q9]? = some ce → ce.vm = .none → s.vm.findClass E = some ce.cls → vx_W p l e R s m args below meth c H1 locs1 (cells + mc) (slots + ms) Q (F0 m pc ls rest) q9)
    (kk : ∀ (r : UInt64) (u : S) (t : State) (H1 : Heap) (locs1 : List Loc), t.heap = H1 → s.vm.Alike t.vm → post r u → B u t → H.size ≤ H1.size → (∀ q : Nat, q < H.size → ¬ A1 q → H1[q]? = H[q]?) → va_S A0 H0 H1 locs1 → W p l e R s m args below meth c H1 locs1 (cells + mc) (slots + ms) Q (F0 m (pc + 3) ls (.double r :: rest))) : W p l e R s m args below meth c H locs cells slots Q (F0 m pc ls st0) := by
  intro T hT X
  rcases hr T hT X with ⟨v, st₀, t, T', L, h0, X', hL, e1, e2, ⟨⟨r, u, hv, hp, hb⟩, hF⟩, st⟩ | ⟨q, st₀, t, T', L, E, ce, h0, X', hL, e1, e2, ⟨u, hp, hb, hF⟩, hce, hcv, hcl, st⟩
  · cases hv
    obtain ⟨k1, k2, k3⟩ := vx_keep h0 e1 hS hA hf hL hF
    obtain ⟨t2, a1, b1⟩ := kk r u t T'.heap (locs ++ L) e1.symm (by rw [← e2]; exact X'.warmed.alike) hp hb k1 k2 k3 T' rfl X'
    exact ⟨t2, st t2 a1, b1⟩
  · obtain ⟨k1, k2, k3⟩ := vx_keep h0 e1 hS hAX hf hL hF
    obtain ⟨t2, a1, b1⟩ := kx E ce q u t T'.heap (locs ++ L) e1.symm (by rw [← e2]; exact X'.warmed.alike) hp hb k1 k2 k3 (by rw [e1]; exact hce) hcv hcl T' rfl X'
    exact ⟨t2, st.trans a1, b1⟩
theorem vx_callv {S SX : Type} {post : S → Prop} {px : SX → Prop} {B : S → State → Prop} {BX : String → SX → State → Prop} {AX : Nat → Prop} (hr : vx_Run p l e R s m args below meth c H locs cells slots mc ms (F0 m pc ls st0) rest (va_Qv post B A1 a) (vx_X px BX AX) free) (hS : va_S A0 H0 H locs) (hA : ∀ q, q < H.size → A1 q → A0 q) (hf : ∀ q, free q → A0 q) (hAX : ∀ q, q < H.size → AX q → A0 q)
    (kx : ∀ (E : String) (ce : Cell) (q9 : Addr) (u : SX) (t : State) (H1 : Heap) (locs1 : List Loc), t.heap = H1 → s.vm.Alike t.vm → px u → BX E u t → H.size ≤ H1.size → (∀ q : Nat, q < H.size → ¬ AX q → H1[q]? = H[q]?) → va_S A0 H0 H1 locs1 → H1[q9]? = some ce → ce.vm = .none → s.vm.findClass E = some ce.cls → vx_W p l e R s m args below meth c H1 locs1 (cells + mc) (slots + ms) Q (F0 m pc ls rest) q9)
    (kk : ∀ (u : S) (t : State) (H1 : Heap) (locs1 : List Loc), t.heap = H1 → s.vm.Alike t.vm → post u → B u t → H.size ≤ H1.size → (∀ q : Nat, q < H.size → ¬ A1 q → H1[q]? = H[q]?) → va_S A0 H0 H1 locs1 → W p l e R s m args below meth c H1 locs1 (cells + mc) (slots + ms) Q (F0 m (pc + 3) ls (rest))) : W p l e R s m args below meth c H locs cells slots Q (F0 m pc ls st0) := by
  intro T hT X
  rcases hr T hT X with ⟨v, st₀, t, T', L, h0, X', hL, e1, e2, ⟨⟨u, hv, hp, hb⟩, hF⟩, st⟩ | ⟨q, st₀, t, T', L, E, ce, h0, X', hL, e1, e2, ⟨u, hp, hb, hF⟩, hce, hcv, hcl, st⟩
  · cases hv
    obtain ⟨k1, k2, k3⟩ := vx_keep h0 e1 hS hA hf hL hF
    obtain ⟨t2, a1, b1⟩ := kk u t T'.heap (locs ++ L) e1.symm (by rw [← e2]; exact X'.warmed.alike) hp hb k1 k2 k3 T' rfl X'
    exact ⟨t2, st t2 a1, b1⟩
  · obtain ⟨k1, k2, k3⟩ := vx_keep h0 e1 hS hAX hf hL hF
    obtain ⟨t2, a1, b1⟩ := kx E ce q u t T'.heap (locs ++ L) e1.symm (by rw [← e2]; exact X'.warmed.alike) hp hb k1 k2 k3 (by rw [e1]; exact hce) hcv hcl T' rfl X'
    exact ⟨t2, st.trans a1, b1⟩
/-- caught by the row x of this method's table; the rows ahead don't take it -/
theorem vx_catch {own name : String} {E : String} {ce : Cell} {q : Addr} (hown : s.vm.findClass own = some m.cls) (pre : List ExceptionTableEntry) (x : ExceptionTableEntry) (suf : List ExceptionTableEntry) (hsplit : c.exceptionTable.toList = pre ++ x :: suf)
    (hpass : ∀ z ∈ pre, covers z pc = false ∨ (z.catchType ≠ 0 ∧ ∃ nm : String, (Cond.classLink own z.catchType nm).before args s = true ∧ va_Nc E nm s)) (hx : covers x pc = true) (h0 : x.catchType ≠ 0)
    (hlink : (Cond.classLink own x.catchType name).before args s = true) (hcast : (Cond.castable E name).before args s = true) (hcell : H[q]? = some ce) (hv : ce.vm = .none) (hcl : s.vm.findClass E = some ce.cls)
    (kk : W p l e R s m args below meth c H locs cells slots Q (F0 m x.handlerPc ls [.ref q])) : vx_W p l e R s m args below meth c H locs cells slots Q (F0 m pc ls rest) q := by
  intro T hT X
  have hpl : e.platform.magicAccessors = ({} : Platform).magicAccessors := by rw [X.admits.platform]
  obtain ⟨c3, c4, hc3, hc4, hasg⟩ := Cond.castable_spec hcast
  cases Option.some.inj (hc3.symm.trans hcl)
  obtain ⟨c5, hc5, hcl5⟩ := Cond.classLink_spec hown hlink e.platform hpl
  cases Option.some.inj (hc4.symm.trans hc5)
  obtain ⟨vm', X', st⟩ := X.thenCaughtThrough q (g := F0 m pc ls rest) rfl (Steps.refl _) (by rw [hT]; exact hcell) (by rw [hv]; rfl) (by obtain ⟨k9, h9, -⟩ := Vm.findClass_spec hcl; exact ⟨k9, h9⟩) pre x suf hsplit
    (fun z hz => by
      rcases hpass z hz with h | ⟨hz0, nm, hl1, hn1⟩
      · exact Or.inl h
      · obtain ⟨c6, hc6, hcl6⟩ := Cond.classLink_spec hown hl1 e.platform hpl
        obtain ⟨a8, b8, h1, h2, h3⟩ := hn1
        cases Option.some.inj (h1.symm.trans hcl)
        cases Option.some.inj (h2.symm.trans hc6)
        exact Or.inr ⟨hz0, _, hcl6, h3⟩) hx (Or.inr ⟨h0, c4, hcl5, hasg⟩)
  obtain ⟨t, a1, b1⟩ := kk (T.setVm vm') hT X'
  exact ⟨t, st.trans a1, b1⟩
end Rows
section Ends
variable {p : Program} {l : Launch} {e : Env} {R : Room} {s : State} {m : MethodId} {args : Array Value} {below : List Frame} {meth : Method} {c : Code} {H : Heap} {locs : List Loc} {cells slots : Nat} {Q : State → Prop}
variable {mc ms : Nat} {free : Addr → Prop} {A0 A1 : Nat → Prop} {H0 : Heap} {a : Array Value} {ls : Array Slot} {st0 rest : List Value}
variable {Qc : Array Value → State → Outcome → State → Prop} {XC : String → State → State → Prop}
/-- what a body that may throw owes at its end -/
def vx_MQ (below : List Frame) (Qc : Array Value → State → Outcome → State → Prop) (XC : String → State → State → Prop) (a : Array Value) (s : State) (mc ms : Nat) (free : Addr → Prop) : State → Prop := fun t =>
  ∃ o, t.status = .running ∧ Ended t below o ∧ vx_Q Qc XC mc ms free a s o t
theorem vx_ret {g : JFrame} {mc ms : Nat} (k : W p l e R s m args below meth c H locs cells slots (MQ below Qc args s mc ms free) g) : W p l e R s m args below meth c H locs cells slots (vx_MQ below Qc XC args s mc ms free) g := by
  intro T hT X
  obtain ⟨t, a1, o, b1, b2, b3, b4⟩ := k T hT X
  exact ⟨t, a1, o, b1, b2, Or.inl ⟨b3, b4⟩⟩
/-- not caught here: it goes on to the caller -/
theorem vx_widen {g : JFrame} {q : Addr} {k n : Nat} (h1 : cells ≤ k) (h2 : slots ≤ n) (kk : vx_W p l e R s m args below meth c H locs k n Q g q) : vx_W p l e R s m args below meth c H locs cells slots Q g q := fun T hT X => kk T hT (stand_widen X h1 h2)
theorem vx_out {pc : Nat} {E : String} {ce : Cell} {q : Addr} {mc ms : Nat} (hout : ∀ x ∈ c.exceptionTable.toList, covers x pc = false) (hlocks : meth.locks = false) (hcell : H[q]? = some ce) (hv : ce.vm = .none) (hcl : s.vm.findClass E = some ce.cls)
    (hx : ∀ t : State, t.heap = H → s.vm.Alike t.vm → XC E s t) (hf : ∀ z ∈ locs, free z.base) (hc : cells ≤ mc) (hs : slots ≤ ms) :
    vx_W p l e R s m args below meth c H locs cells slots (vx_MQ below Qc XC args s mc ms free) (F0 m pc ls rest) q := by
  intro T hT X
  obtain ⟨st1, hrun, hend, hW, hsm⟩ := X.leaveThrown q (g := F0 m pc ls rest) rfl rfl rfl hout hlocks
  have hcell9 : (T.setFrames (.throwing q :: below)).heap[q]? = some ce := by
    show T.heap[q]? = some ce
    rw [hT]; exact hcell
  exact ⟨_, st1, .threw q, hrun, hend, Or.inr ⟨q, rfl, E, ce, locs, hx _ hT hW.alike, hcell9, hv, hcl, hW, hsm.mono hc hs, hf⟩⟩
theorem vx_frame {U : State} {k n : Nat} (h : s.sameButNew ({ U with vm := s.vm } : State) locs k n) : s.heap.size ≤ U.heap.size ∧ ∀ q : Nat, q < s.heap.size → (∀ z ∈ locs, z.base ≠ q) → U.heap[q]? = s.heap[q]? := by
  obtain ⟨-, h2, -, -, -, h6⟩ := h
  refine ⟨h2, fun q hq hz => ?_⟩
  obtain ⟨c9, e1, e2, e3, e4⟩ := h6 q _ (Array.getElem?_eq_getElem hq)
  have hs : c9.slots = (s.heap[q]).slots := Array.ext_getElem? fun i => e4 i fun hm => hz _ hm rfl
  have h9 : c9 = s.heap[q] := by
    rw [hs] at e2
    exact e2
  have e5 : U.heap[q]? = some c9 := e1
  rw [e5, h9, Array.getElem?_eq_getElem hq]
/-- the words of a throw but the four that speak of the heap -/
def vx_no (w : Cond) : Bool := decide (w ≠ .isRef (.static Bundle.tN "UNASSIGNED_STACK" Bundle.steD)) && decide (w ≠ .isRef (.static Bundle.tN "SUPPRESSED_SENTINEL" Bundle.listD)) && decide (w ≠ .laysStatic Bundle.tN "UNASSIGNED_STACK" Bundle.steD) && decide (w ≠ .laysStatic Bundle.tN "SUPPRESSED_SENTINEL" Bundle.listD)
def vx_at0 (own : String) (ic : Nat) (X : String) (names : List String) : List Cond := (Bundle.ownAtoms0 own ic X names).filter vx_no
def vx_atS (own : String) (ic : Nat) (X : String) (names : List String) : List Cond := (Bundle.ownAtoms own ic X names).filter vx_no
/-- a word that the tables alone decide, or a good one -/
def vx_ot (w : Cond) : Bool := w.onTables || goodWord w
theorem vx_ot_at {args a' : Array Value} {s U : State} {w : Cond} (hW : s.WarmedH U.vm) (hvm : s.vm = U.vm) (hg : vx_ot w = true) (h : w.before args s = true) : w.before a' U = true := by
  simp only [vx_ot, Bool.or_eq_true] at hg
  rcases hg with hg | hg
  · exact va_tabs hg hvm h
  · exact word_at hW (good_of_word hg) h
/-- a list's words: the good ones out of the method's own list, the others by premises of their own -/
theorem vx_hat {args : Array Value} {s : State} {L B : List Cond} (h1 : ∀ w ∈ L.filter goodWord, w.before args s = true) (h2 : ∀ w ∈ L.filter (fun w => !goodWord w), w ∈ B) (h3 : ∀ w ∈ B, w.before args s = true) : ∀ w ∈ L, w.before args s = true := by
  intro w hw
  by_cases g : goodWord w = true
  · exact h1 w (List.mem_filter.mpr ⟨hw, g⟩)
  · refine h3 w (h2 w (List.mem_filter.mpr ⟨hw, ?_⟩))
    show (!goodWord w) = true
    cases hgw : goodWord w
    · rfl
    · exact absurd hgw g
theorem vx_c {args : Array Value} {s : State} {w : Cond} {B : List Cond} (h : w.before args s = true) (t : ∀ w ∈ B, w.before args s = true) : ∀ w' ∈ w :: B, w'.before args s = true := fun w' h' => (List.mem_cons.mp h').elim (fun e => by rw [e]; exact h) (t w')
theorem vx_n {args : Array Value} {s : State} : ∀ w ∈ ([] : List Cond), w.before args s = true := fun _ h => nomatch h
theorem vx_own {args : Array Value} {s : State} {L : List Cond} (h1 : ∀ w ∈ L.filter vx_no, w.before args s = true)
    (hU : (Cond.isRef (.static Bundle.tN "UNASSIGNED_STACK" Bundle.steD)).before args s = true) (hN : (Cond.isRef (.static Bundle.tN "SUPPRESSED_SENTINEL" Bundle.listD)).before args s = true)
    (lU : (Cond.laysStatic Bundle.tN "UNASSIGNED_STACK" Bundle.steD).before args s = true) (lN : (Cond.laysStatic Bundle.tN "SUPPRESSED_SENTINEL" Bundle.listD).before args s = true) : ∀ w ∈ L, w.before args s = true := by
  intro w hw
  by_cases e1 : w = .isRef (.static Bundle.tN "UNASSIGNED_STACK" Bundle.steD)
  · rw [e1]; exact hU
  · by_cases e2 : w = .isRef (.static Bundle.tN "SUPPRESSED_SENTINEL" Bundle.listD)
    · rw [e2]; exact hN
    · by_cases e3 : w = .laysStatic Bundle.tN "UNASSIGNED_STACK" Bundle.steD
      · rw [e3]; exact lU
      · by_cases e4 : w = .laysStatic Bundle.tN "SUPPRESSED_SENTINEL" Bundle.listD
        · rw [e4]; exact lN
        · exact h1 w (List.mem_filter.mpr ⟨hw, by unfold vx_no; rw [decide_eq_true e1, decide_eq_true e2, decide_eq_true e3, decide_eq_true e4]; rfl⟩)
/-- where a static field lies, its class's statics cell in H -/
def vx_L (C n d : String) (A : Nat → Prop) (U : State) (H : Heap) : Prop := ∃ (c : ClassId) (k : Class) (i : Nat) (f : Field) (a : Nat) (cell : Cell), U.vm.findClass C = some c ∧ U.fieldFound? C n d = some (c, k, i, f) ∧ f.isStatic = true ∧ k.statics = some a ∧ H[a]? = some cell ∧ cell.vm.isStatics = true ∧ cell.cls = c ∧ f.slot < cell.slots.size ∧ k.staticTypes[f.slot]? = some f.type ∧ ¬ A a
theorem vx_L.moved {C n d : String} {A : Nat → Prop} {u U : State} {H : Heap} (hvm : u.vm.Alike U.vm) (h : vx_L C n d A u H) : vx_L C n d A U H := by
  obtain ⟨c, k, i, f, a, cell, h1, h2, h3, h4, h5, h6, h7, h8, h9, h10⟩ := h
  obtain ⟨k', hi', he⟩ := State.fieldFound?_setVm hvm h2
  exact ⟨c, k', i, f, a, cell, by rw [hvm.findClass]; exact h1, hi', h3, by rw [he]; exact h4, h5, h6, h7, h8, by rw [he]; exact h9, h10⟩
theorem vx_L.kept {C n d : String} {A : Nat → Prop} {U : State} {H H1 : Heap} (h : vx_L C n d A U H) (hq : ∀ a : Nat, a < H.size → ¬ A a → H1[a]? = H[a]?) : vx_L C n d A U H1 := by
  obtain ⟨c, k, i, f, a, cell, h1, h2, h3, h4, h5, h6, h7, h8, h9, h10⟩ := h
  exact ⟨c, k, i, f, a, cell, h1, h2, h3, h4, by rw [hq a (Array.getElem?_eq_some_iff.mp h5).1 h10]; exact h5, h6, h7, h8, h9, h10⟩
theorem vx_L.narrow {C n d : String} {A B : Nat → Prop} {U : State} {H : Heap} (h : vx_L C n d A U H) (hAB : ∀ q, B q → A q) : vx_L C n d B U H := by
  obtain ⟨c, k, i, f, a, cell, h1, h2, h3, h4, h5, h6, h7, h8, h9, h10⟩ := h
  exact ⟨c, k, i, f, a, cell, h1, h2, h3, h4, h5, h6, h7, h8, h9, fun z => h10 (hAB _ z)⟩
theorem vx_L.word {C n d : String} {A : Nat → Prop} {s : State} {args : Array Value} (h : vx_L C n d A s s.heap) : (Cond.laysStatic C n d).before args s = true := by
  obtain ⟨c, k, i, f, a, cell, h1, h2, h3, h4, h5, h6, h7, h8, h9, -⟩ := h
  show (Cond.laysStatic C n d).holds args s none s [] = true
  exact Cond.laysStatic_of h1 h2 h3 h4 h5 h6 h7 h8 h9
/-- .. and what it holds: null or some reference -/
def vx_Zq (C n d : String) (A : Nat → Prop) (U : State) (H : Heap) : Prop := va_Zq C n d A U H ∧ vx_L C n d A U H
theorem vx_Zq.moved {C n d : String} {A : Nat → Prop} {u U : State} {H : Heap} (hvm : u.vm.Alike U.vm) (h : vx_Zq C n d A u H) : vx_Zq C n d A U H := ⟨va_Zq.moved hvm h.1, vx_L.moved hvm h.2⟩
theorem vx_Zq.kept {C n d : String} {A : Nat → Prop} {U : State} {H H1 : Heap} (h : vx_Zq C n d A U H) (hq : ∀ a : Nat, a < H.size → ¬ A a → H1[a]? = H[a]?) : vx_Zq C n d A U H1 := ⟨va_Zq.kept h.1 hq, vx_L.kept h.2 hq⟩
theorem vx_Zq.narrow {C n d : String} {A B : Nat → Prop} {U : State} {H : Heap} (h : vx_Zq C n d A U H) (hAB : ∀ q, B q → A q) : vx_Zq C n d B U H := ⟨va_Zq.narrow h.1 hAB, vx_L.narrow h.2 hAB⟩
theorem vx_Zqof {args : Array Value} {s : State} {C n d : String} {A : Nat → Prop} (hl : (Cond.laysStatic C n d).before args s = true) (hini : (Cond.initialized C).before args s = true) (h : (Cond.isRef (.static C n d)).before args s = true) (hA : ∀ a : Nat, a < s.heap.size → ¬ A a) : vx_Zq C n d A s s.heap := by
  refine ⟨va_Zqof hl hini h hA, ?_⟩
  obtain ⟨c, k, i, f, a, cell, h1, h2, h3, h4, h5, h6, h7, h8, h9⟩ := Cond.laysStatic_spec hl
  exact ⟨c, k, i, f, a, cell, h1, h2, h3, h4, h5, h6, h7, h8, h9, hA a (Array.getElem?_eq_some_iff.mp h5).1⟩
theorem vx_isRef {C n d : String} {v : Value} {A : Nat → Prop} {s : State} {args : Array Value} (h : va_Z C n d v A s s.heap) (hv : v.isRef = true) : (Cond.isRef (.static C n d)).before args s = true := by
  obtain ⟨cf, kf, fi, f, a, cell, h1, h2, h3, h4, h5, h6, h7, -⟩ := h
  have he : (Term.static C n d).eval args s none [] s = some v := by
    simp [Term.eval, State.fieldNamed?, h1, h2, h4, h5, h6, h7]
  simp only [Cond.before, Cond.holds, Cond.value, he]
  cases v <;> simp_all [Value.isRef]
theorem vx_isRefq {C n d : String} {A : Nat → Prop} {s : State} {args : Array Value} (h : va_Zq C n d A s s.heap) : (Cond.isRef (.static C n d)).before args s = true := by
  rcases h with h | ⟨t, h⟩
  · exact vx_isRef h rfl
  · exact vx_isRef h rfl
/-- the same frame, seen from here: as if the method were called anew in this heap -/
theorem vx_rebase {T : State} (X : Stand p l e R s m args below meth c T locs cells slots) {R' : Room} (hf : R'.frames ≤ R.frames) (hl : R'.locals ≤ R.locals) (hc : cells + R'.cells ≤ R.cells) (hs : slots + R'.slots ≤ R.slots) :
    Stand p l e R' ((T.setVm s.vm).setFrames (.invoking m args :: below)) m args below meth c T [] 0 0 := by
  have htop : (T.setVm s.vm).topJava?.isSome := X.here.top
  have hF : ((T.setVm s.vm).setFrames (.invoking m args :: below)).frames = .invoking m args :: below := State.frames_setFrames _ (State.cur_lt_of_top htop)
  obtain ⟨g₀, hg0⟩ := Option.isSome_iff_exists.mp htop
  obtain ⟨r, hr⟩ := State.topJava?_eq_some.mp hg0
  have hl9 : e.platform.stackLimits (T.setVm s.vm).me = e.platform.stackLimits s.me := X.limits
  have hb9 : (T.setVm s.vm).me.stackBytes = s.me.stackBytes := X.bytes
  refine ⟨X.admits, X.cas, X.clock, hF, ?_, X.hears, X.method, X.code, X.here, X.tail, X.warmed, ?_, ?_, ?_⟩
  · have h := X.room
    have hU : ((T.setVm s.vm).setFrames (.invoking m args :: below)).localsInUse = s.localsInUse := by
      rw [State.localsInUse_invoking hF (meth := meth) (c := c) X.method X.code, State.localsInUse_invoking X.frames X.method X.code]
    simp only [State.hasRoom, Bool.and_eq_true, decide_eq_true_eq] at h ⊢
    obtain ⟨⟨⟨⟨h1, h2, h3, h4, h5, h6⟩, h7⟩, h8⟩, h9⟩ := h
    rw [X.frames, List.length_cons] at h2 h3
    have q1 := X.heapSize
    have q2 := X.used
    simp only [hF, hU, List.length_cons, State.stackLimits_setFrames, State.stackBytes_setFrames, hl9, hb9]
    refine ⟨⟨⟨⟨by omega, by omega, by omega, by omega, by omega, h6⟩, ?_⟩, ?_⟩, X.book⟩
    · show T.heap.size + R'.cells ≤ e.platform.maxCells
      omega
    · show T.slotsUsed + R'.slots ≤ e.platform.maxSlots
      omega
  · rw [State.stackLimits_setFrames]; rfl
  · rw [State.stackBytes_setFrames]; rfl
  · refine ⟨?_, Nat.le_refl _, Nat.le_refl _, ?_, ?_, fun a c9 h9 => ⟨c9, h9, rfl, rfl, fun _ _ => rfl⟩⟩
    · obtain ⟨t, ht, -⟩ := State.frames_cons hr
      show T.setVm s.vm = { ((T.setVm s.vm).setFrames (.invoking m args :: below)).setFrames (T.setVm s.vm).frames with heap := T.heap, slotsUsed := T.slotsUsed }
      rw [State.setFrames_setFrames, State.setFrames_self ht]
      rfl
    · show T.slotsUsed = T.slotsUsed + ((T.heap.toList.drop T.heap.size).map (·.slots.size)).sum
      rw [List.drop_eq_nil_of_le (Nat.le_of_eq Array.length_toList)]
      rfl
    · show ((T.heap.toList.drop T.heap.size).map (·.slots.size)).sum ≤ 0
      rw [List.drop_eq_nil_of_le (Nat.le_of_eq Array.length_toList)]
      exact Nat.le_refl _
/-- 'throw new E()': new; dup; invokespecial; athrow -/
theorem vx_throw0 {cc : ByteArray} {pc : Nat} (hexec : p.tables.exec = Jvm.exec) (hb : c.code = cc) (hl : l.stackTraces = false) {own cls : String} {names : List String} {ik ic mc ms : Nat} {A : Nat → Prop}
    (hown : s.vm.findClass own = some m.cls) (hcls : Bundle.fit cls = true) (hnames : ∀ n ∈ names, Bundle.fit n = true)
    (hk : (Cond.classLink own ik cls).before args s = true) (hini : (Cond.initialized cls).before args s = true) (hat : ∀ w ∈ vx_at0 own ic cls names, w.before args s = true)
    (hgood : ∀ w ∈ Cond.classLink own ik cls :: Cond.initialized cls :: vx_at0 own ic cls names, vx_ot w = true)
    (hU : vx_Zq Bundle.tN "UNASSIGNED_STACK" Bundle.steD A s s.heap) (hN : vx_Zq Bundle.tN "SUPPRESSED_SENTINEL" Bundle.listD A s s.heap) (hS : va_S A s.heap H locs) (hsize : ls.size = c.maxLocals)
    (d0 : decode cc pc = .ok (.new ik, 3)) (d3 : decode cc (pc + 3) = .ok (.dup, 1)) (d4 : decode cc (pc + 4) = .ok (.invokespecial ic, 3)) (d7 : decode cc (pc + 7) = .ok (.athrow, 1))
    (hout : ∀ x ∈ c.exceptionTable.toList, covers x (pc + 7) = false)
    (hRframes : names.length + 3 < R.frames) (hRlocals : (rest.map fun v => v.category).sum + (13 * (names.length + 1) + 42) ≤ R.locals) (hRcells : cells + 1 ≤ R.cells) (hRslots : slots + 6 ≤ R.slots) (hlocks : meth.locks = false)
    (hx : ∀ t : State, s.vm.Alike t.vm → H.size ≤ t.heap.size → (∀ q : Nat, q < H.size → t.heap[q]? = H[q]?) → XC cls s t)
    (hf : ∀ z ∈ locs, free z.base) (hc : cells + 1 ≤ mc) (hs : slots + 6 ≤ ms) :
    W p l e R s m args below meth c H locs cells slots (vx_MQ below Qc XC args s mc ms free) (F0 m pc ls rest) := by
  intro T hT X
  have htr : e.platform.stackTraces = false := (show e.platform.stackTraces = l.stackTraces by rw [X.admits.platform]).trans hl
  have Y := vx_rebase X (R' := { frames := R.frames, locals := R.locals, cells := 1, slots := 6 }) (Nat.le_refl _) (Nat.le_refl _) hRcells hRslots
  obtain ⟨s', hA⟩ : ∃ z, z = (T.setVm s.vm).setFrames (.invoking m args :: below) := ⟨_, rfl⟩
  rw [← hA] at Y
  have hvm : s'.vm = s.vm := by rw [hA]; rfl
  have hhp : s'.heap = H := by rw [hA]; exact hT
  have hW0 : s.WarmedH s'.vm := by rw [hvm]; exact State.WarmedH.refl s
  have hat' : ∀ w ∈ vx_at0 own ic cls names, w.before args s' = true := fun w hw => vx_ot_at hW0 hvm.symm (hgood w (List.mem_cons_of_mem _ (List.mem_cons_of_mem _ hw))) (hat w hw)
  have hk' : (Cond.classLink own ik cls).before args s' = true := vx_ot_at hW0 hvm.symm (hgood _ List.mem_cons_self) hk
  have hini' : (Cond.initialized cls).before args s' = true := vx_ot_at hW0 hvm.symm (hgood _ (List.mem_cons_of_mem _ List.mem_cons_self)) hini
  have hU' : vx_Zq Bundle.tN "UNASSIGNED_STACK" Bundle.steD A s' s'.heap := by rw [hhp]; exact vx_Zq.moved hW0.alike (hU.kept hS.2.1)
  have hN' : vx_Zq Bundle.tN "SUPPRESSED_SENTINEL" Bundle.listD A s' s'.heap := by rw [hhp]; exact vx_Zq.moved hW0.alike (hN.kept hS.2.1)
  have h : ∀ w ∈ Bundle.ownAtoms0 own ic cls names, w.before args s' = true := vx_own hat' (vx_isRefq hU'.1) (vx_isRefq hN'.1) hU'.2.word hN'.2.word
  have hown' : s'.vm.findClass own = some m.cls := by rw [hvm]; exact hown
  have hins : (Cond.instantiable cls 6).before args s' = true := h _ (by simp [Bundle.ownAtoms0])
  obtain ⟨vm₁, cX, kX, hfX, hkX, -, -, X₁, st1⟩ := Y.newCold hexec (own := own) (C := cls) (index := ik) (n := 6) hown' hk' hins hini'
    (g := F0 m pc ls rest) rfl (by rw [hb]; exact d0) (Nat.le_refl _) (Nat.le_refl _)
  generalize hT1 : (T.setVm vm₁).pushCell { cls := cX, slots := kX.instanceTypes.map defaultValue, vm := .none } = T1 at X₁ st1
  have hcat : (Value.ref T.heap.size).category = 1 := rfl
  have hcellA : T1.heap[T.heap.size]? = some (freshCell cX kX) := by rw [← hT1]; exact State.heap_pushCell_size _ _
  have d3' : decode c.code (pc + 3) = .ok (.dup, 1) := by rw [hb]; exact d3
  obtain ⟨U, hsteps, hrun, hend, hW, hsame, ce, hce, hO⟩ := X₁.ctorThrow0 hexec htr (own := own) (cls := cls) (names := names) (ic := ic) hown' hcls hnames h (fun x hx => nomatch hx) hfX hkX hcellA (by rw [hhp, hT]; exact Nat.le_refl _)
    (g := { method := m, pc := pc + 4, locals := ls, stack := .ref T.heap.size :: .ref T.heap.size :: rest, locked := none }) rfl hsize rfl rfl (rest := rest) rfl
    (by rw [hb]; exact d4) (by rw [hb]; exact d7) hout hRframes (by simp only [List.map_cons, List.sum_cons, hcat]; omega) hlocks
  obtain ⟨f1, f2⟩ := vx_frame hsame
  rw [hhp] at f1 f2
  have hWs : s.WarmedH U.vm := State.WarmedH.trans hW0 hW
  have hcl : s.vm.findClass cls = some ce.cls := by
    have h9 := hO.cls
    rw [hvm] at h9
    exact h9
  have hall : s.sameButNew ({ U with vm := s.vm } : State) locs mc ms := by
    subst hA
    obtain ⟨e1, e2⟩ := hsame
    rw [State.setFrames_setFrames] at e1
    have h2 : (T.setVm s.vm).sameButNew ({ U with vm := s.vm } : State) [] (0 + 1) (0 + 6) := ⟨e1, e2⟩
    have h3 := X.same.trans h2
    rw [List.append_nil] at h3
    exact h3.mono hc hs
  refine ⟨U, ?_, .threw T.heap.size, hrun, hend, Or.inr ⟨T.heap.size, rfl, cls, ce, locs, hx U hWs.alike f1 (fun q hq => f2 q hq (fun z hz => nomatch hz)), hce, hO.vm, hcl, hWs, hall, hf⟩⟩
  refine st1 _ ?_
  show Steps p.tables e below (T1.setTop { method := m, pc := pc + 3, locals := ls, stack := .ref T.heap.size :: rest, locked := none }) _
  jvm_step X₁.here [X₁.here.top, hexec, d3', Value.category]
  exact hsteps
/-- 'throw new E("text")': new; dup; ldc; invokespecial; athrow -/
theorem vx_throwS {cc : ByteArray} {pc : Nat} (hexec : p.tables.exec = Jvm.exec) (hb : c.code = cc) (hl : l.stackTraces = false) {own cls text : String} {names : List String} {ik is ic mc ms sa : Nat} {A : Nat → Prop}
    (hown : s.vm.findClass own = some m.cls) (hcls : Bundle.fit cls = true) (hnames : ∀ n ∈ names, Bundle.fit n = true)
    (hk : (Cond.classLink own ik cls).before args s = true) (hini : (Cond.initialized cls).before args s = true) (hstr : vk_R own is text sa s) (hat : ∀ w ∈ vx_atS own ic cls names, w.before args s = true)
    (hgood : ∀ w ∈ Cond.classLink own ik cls :: Cond.initialized cls :: vx_atS own ic cls names, vx_ot w = true)
    (hU : vx_Zq Bundle.tN "UNASSIGNED_STACK" Bundle.steD A s s.heap) (hN : vx_Zq Bundle.tN "SUPPRESSED_SENTINEL" Bundle.listD A s s.heap) (hS : va_S A s.heap H locs) (hsize : ls.size = c.maxLocals)
    (d0 : decode cc pc = .ok (.new ik, 3)) (d3 : decode cc (pc + 3) = .ok (.dup, 1)) (d4 : decode cc (pc + 4) = .ok (.ldc is, 2)) (d6 : decode cc (pc + 6) = .ok (.invokespecial ic, 3)) (d9 : decode cc (pc + 9) = .ok (.athrow, 1))
    (hout : ∀ x ∈ c.exceptionTable.toList, covers x (pc + 9) = false)
    (hRframes : names.length + 3 < R.frames) (hRlocals : (rest.map fun v => v.category).sum + (13 * (names.length + 1) + 43) ≤ R.locals) (hRcells : cells + 1 ≤ R.cells) (hRslots : slots + 6 ≤ R.slots) (hlocks : meth.locks = false)
    (hx : ∀ t : State, s.vm.Alike t.vm → H.size ≤ t.heap.size → (∀ q : Nat, q < H.size → t.heap[q]? = H[q]?) → XC cls s t)
    (hf : ∀ z ∈ locs, free z.base) (hc : cells + 1 ≤ mc) (hs : slots + 6 ≤ ms) :
    W p l e R s m args below meth c H locs cells slots (vx_MQ below Qc XC args s mc ms free) (F0 m pc ls rest) := by
  intro T hT X
  have htr : e.platform.stackTraces = false := (show e.platform.stackTraces = l.stackTraces by rw [X.admits.platform]).trans hl
  have Y := vx_rebase X (R' := { frames := R.frames, locals := R.locals, cells := 1, slots := 6 }) (Nat.le_refl _) (Nat.le_refl _) hRcells hRslots
  obtain ⟨s', hA⟩ : ∃ z, z = (T.setVm s.vm).setFrames (.invoking m args :: below) := ⟨_, rfl⟩
  rw [← hA] at Y
  have hvm : s'.vm = s.vm := by rw [hA]; rfl
  have hhp : s'.heap = H := by rw [hA]; exact hT
  have hW0 : s.WarmedH s'.vm := by rw [hvm]; exact State.WarmedH.refl s
  have hat' : ∀ w ∈ vx_atS own ic cls names, w.before args s' = true := fun w hw => vx_ot_at hW0 hvm.symm (hgood w (List.mem_cons_of_mem _ (List.mem_cons_of_mem _ hw))) (hat w hw)
  have hk' : (Cond.classLink own ik cls).before args s' = true := vx_ot_at hW0 hvm.symm (hgood _ List.mem_cons_self) hk
  have hini' : (Cond.initialized cls).before args s' = true := vx_ot_at hW0 hvm.symm (hgood _ (List.mem_cons_of_mem _ List.mem_cons_self)) hini
  have hU' : vx_Zq Bundle.tN "UNASSIGNED_STACK" Bundle.steD A s' s'.heap := by rw [hhp]; exact vx_Zq.moved hW0.alike (hU.kept hS.2.1)
  have hN' : vx_Zq Bundle.tN "SUPPRESSED_SENTINEL" Bundle.listD A s' s'.heap := by rw [hhp]; exact vx_Zq.moved hW0.alike (hN.kept hS.2.1)
  have h : ∀ w ∈ Bundle.ownAtoms own ic cls names, w.before args s' = true := vx_own hat' (vx_isRefq hU'.1) (vx_isRefq hN'.1) hU'.2.word hN'.2.word
  have hown' : s'.vm.findClass own = some m.cls := by rw [hvm]; exact hown
  have hins : (Cond.instantiable cls 6).before args s' = true := h _ (by simp [Bundle.ownAtoms])
  obtain ⟨vm₁, cX, kX, hfX, hkX, -, -, X₁, st1⟩ := Y.newCold hexec (own := own) (C := cls) (index := ik) (n := 6) hown' hk' hins hini'
    (g := F0 m pc ls rest) rfl (by rw [hb]; exact d0) (Nat.le_refl _) (Nat.le_refl _)
  generalize hT1 : (T.setVm vm₁).pushCell { cls := cX, slots := kX.instanceTypes.map defaultValue, vm := .none } = T1 at X₁ st1
  have hcat : (Value.ref T.heap.size).category = 1 := rfl
  have hcellA : T1.heap[T.heap.size]? = some (freshCell cX kX) := by rw [← hT1]; exact State.heap_pushCell_size _ _
  have d3' : decode c.code (pc + 3) = .ok (.dup, 1) := by rw [hb]; exact d3
  have d4' : decode c.code (pc + 4) = .ok (.ldc is, 2) := by rw [hb]; exact d4
  have hstr' : vk_R own is text sa s' := vk_R.warm hW0 hstr
  obtain ⟨U, hsteps, hrun, hend, hW, hsame, ce, hce, hO⟩ := X₁.ctorThrowS hexec htr (own := own) (cls := cls) (names := names) (ic := ic) hown' hcls hnames h (fun x hx => nomatch hx) hfX hkX hcellA (by rw [hhp, hT]; exact Nat.le_refl _) (msg := .ref sa) rfl
    (g := { method := m, pc := pc + 6, locals := ls, stack := .ref sa :: .ref T.heap.size :: .ref T.heap.size :: rest, locked := none }) rfl hsize rfl rfl (rest := rest) rfl
    (by rw [hb]; exact d6) (by rw [hb]; exact d9) hout hRframes (by simp only [List.map_cons, List.sum_cons, hcat]; omega) hlocks
  obtain ⟨f1, f2⟩ := vx_frame hsame
  rw [hhp] at f1 f2
  have hWs : s.WarmedH U.vm := State.WarmedH.trans hW0 hW
  have hcl : s.vm.findClass cls = some ce.cls := by
    have h9 := hO.cls
    rw [hvm] at h9
    exact h9
  have hall : s.sameButNew ({ U with vm := s.vm } : State) locs mc ms := by
    subst hA
    obtain ⟨e1, e2⟩ := hsame
    rw [State.setFrames_setFrames] at e1
    have h2 : (T.setVm s.vm).sameButNew ({ U with vm := s.vm } : State) [] (0 + 1) (0 + 6) := ⟨e1, e2⟩
    have h3 := X.same.trans h2
    rw [List.append_nil] at h3
    exact h3.mono hc hs
  refine ⟨U, ?_, .threw T.heap.size, hrun, hend, Or.inr ⟨T.heap.size, rfl, cls, ce, locs, hx U hWs.alike f1 (fun q hq => f2 q hq (fun z hz => nomatch hz)), hce, hO.vm, hcl, hWs, hall, hf⟩⟩
  refine st1 _ ?_
  show Steps p.tables e below (T1.setTop { method := m, pc := pc + 3, locals := ls, stack := .ref T.heap.size :: rest, locked := none }) _
  jvm_step X₁.here [X₁.here.top, hexec, d3', Value.category]
  exact X₁.ldcString hexec (own := own) (text := text) (index := is) (a := sa) hown' hstr'.1 hstr'.2
    (g := { method := m, pc := pc + 4, locals := ls, stack := .ref T.heap.size :: .ref T.heap.size :: rest, locked := none }) rfl d4' _ hsteps
/-- 'throw new E("text")', the text by a wide index -/
theorem vx_throwSW {cc : ByteArray} {pc : Nat} (hexec : p.tables.exec = Jvm.exec) (hb : c.code = cc) (hl : l.stackTraces = false) {own cls text : String} {names : List String} {ik is ic mc ms sa : Nat} {A : Nat → Prop}
    (hown : s.vm.findClass own = some m.cls) (hcls : Bundle.fit cls = true) (hnames : ∀ n ∈ names, Bundle.fit n = true)
    (hk : (Cond.classLink own ik cls).before args s = true) (hini : (Cond.initialized cls).before args s = true) (hstr : vk_R own is text sa s) (hat : ∀ w ∈ vx_atS own ic cls names, w.before args s = true)
    (hgood : ∀ w ∈ Cond.classLink own ik cls :: Cond.initialized cls :: vx_atS own ic cls names, vx_ot w = true)
    (hU : vx_Zq Bundle.tN "UNASSIGNED_STACK" Bundle.steD A s s.heap) (hN : vx_Zq Bundle.tN "SUPPRESSED_SENTINEL" Bundle.listD A s s.heap) (hS : va_S A s.heap H locs) (hsize : ls.size = c.maxLocals)
    (d0 : decode cc pc = .ok (.new ik, 3)) (d3 : decode cc (pc + 3) = .ok (.dup, 1)) (d4 : decode cc (pc + 4) = .ok (.ldc_w is, 3)) (d7 : decode cc (pc + 7) = .ok (.invokespecial ic, 3)) (d10 : decode cc (pc + 10) = .ok (.athrow, 1))
    (hout : ∀ x ∈ c.exceptionTable.toList, covers x (pc + 10) = false)
    (hRframes : names.length + 3 < R.frames) (hRlocals : (rest.map fun v => v.category).sum + (13 * (names.length + 1) + 43) ≤ R.locals) (hRcells : cells + 1 ≤ R.cells) (hRslots : slots + 6 ≤ R.slots) (hlocks : meth.locks = false)
    (hx : ∀ t : State, s.vm.Alike t.vm → H.size ≤ t.heap.size → (∀ q : Nat, q < H.size → t.heap[q]? = H[q]?) → XC cls s t)
    (hf : ∀ z ∈ locs, free z.base) (hc : cells + 1 ≤ mc) (hs : slots + 6 ≤ ms) :
    W p l e R s m args below meth c H locs cells slots (vx_MQ below Qc XC args s mc ms free) (F0 m pc ls rest) := by
  intro T hT X
  have htr : e.platform.stackTraces = false := (show e.platform.stackTraces = l.stackTraces by rw [X.admits.platform]).trans hl
  have Y := vx_rebase X (R' := { frames := R.frames, locals := R.locals, cells := 1, slots := 6 }) (Nat.le_refl _) (Nat.le_refl _) hRcells hRslots
  obtain ⟨s', hA⟩ : ∃ z, z = (T.setVm s.vm).setFrames (.invoking m args :: below) := ⟨_, rfl⟩
  rw [← hA] at Y
  have hvm : s'.vm = s.vm := by rw [hA]; rfl
  have hhp : s'.heap = H := by rw [hA]; exact hT
  have hW0 : s.WarmedH s'.vm := by rw [hvm]; exact State.WarmedH.refl s
  have hat' : ∀ w ∈ vx_atS own ic cls names, w.before args s' = true := fun w hw => vx_ot_at hW0 hvm.symm (hgood w (List.mem_cons_of_mem _ (List.mem_cons_of_mem _ hw))) (hat w hw)
  have hk' : (Cond.classLink own ik cls).before args s' = true := vx_ot_at hW0 hvm.symm (hgood _ List.mem_cons_self) hk
  have hini' : (Cond.initialized cls).before args s' = true := vx_ot_at hW0 hvm.symm (hgood _ (List.mem_cons_of_mem _ List.mem_cons_self)) hini
  have hU' : vx_Zq Bundle.tN "UNASSIGNED_STACK" Bundle.steD A s' s'.heap := by rw [hhp]; exact vx_Zq.moved hW0.alike (hU.kept hS.2.1)
  have hN' : vx_Zq Bundle.tN "SUPPRESSED_SENTINEL" Bundle.listD A s' s'.heap := by rw [hhp]; exact vx_Zq.moved hW0.alike (hN.kept hS.2.1)
  have h : ∀ w ∈ Bundle.ownAtoms own ic cls names, w.before args s' = true := vx_own hat' (vx_isRefq hU'.1) (vx_isRefq hN'.1) hU'.2.word hN'.2.word
  have hown' : s'.vm.findClass own = some m.cls := by rw [hvm]; exact hown
  have hins : (Cond.instantiable cls 6).before args s' = true := h _ (by simp [Bundle.ownAtoms])
  obtain ⟨vm₁, cX, kX, hfX, hkX, -, -, X₁, st1⟩ := Y.newCold hexec (own := own) (C := cls) (index := ik) (n := 6) hown' hk' hins hini'
    (g := F0 m pc ls rest) rfl (by rw [hb]; exact d0) (Nat.le_refl _) (Nat.le_refl _)
  generalize hT1 : (T.setVm vm₁).pushCell { cls := cX, slots := kX.instanceTypes.map defaultValue, vm := .none } = T1 at X₁ st1
  have hcat : (Value.ref T.heap.size).category = 1 := rfl
  have hcellA : T1.heap[T.heap.size]? = some (freshCell cX kX) := by rw [← hT1]; exact State.heap_pushCell_size _ _
  have d3' : decode c.code (pc + 3) = .ok (.dup, 1) := by rw [hb]; exact d3
  have d4' : decode c.code (pc + 4) = .ok (.ldc_w is, 3) := by rw [hb]; exact d4
  have hstr' : vk_R own is text sa s' := vk_R.warm hW0 hstr
  obtain ⟨U, hsteps, hrun, hend, hW, hsame, ce, hce, hO⟩ := X₁.ctorThrowS hexec htr (own := own) (cls := cls) (names := names) (ic := ic) hown' hcls hnames h (fun x hx => nomatch hx) hfX hkX hcellA (by rw [hhp, hT]; exact Nat.le_refl _) (msg := .ref sa) rfl
    (g := { method := m, pc := pc + 7, locals := ls, stack := .ref sa :: .ref T.heap.size :: .ref T.heap.size :: rest, locked := none }) rfl hsize rfl rfl (rest := rest) rfl
    (by rw [hb]; exact d7) (by rw [hb]; exact d10) hout hRframes (by simp only [List.map_cons, List.sum_cons, hcat]; omega) hlocks
  obtain ⟨f1, f2⟩ := vx_frame hsame
  rw [hhp] at f1 f2
  have hWs : s.WarmedH U.vm := State.WarmedH.trans hW0 hW
  have hcl : s.vm.findClass cls = some ce.cls := by
    have h9 := hO.cls
    rw [hvm] at h9
    exact h9
  have hall : s.sameButNew ({ U with vm := s.vm } : State) locs mc ms := by
    subst hA
    obtain ⟨e1, e2⟩ := hsame
    rw [State.setFrames_setFrames] at e1
    have h2 : (T.setVm s.vm).sameButNew ({ U with vm := s.vm } : State) [] (0 + 1) (0 + 6) := ⟨e1, e2⟩
    have h3 := X.same.trans h2
    rw [List.append_nil] at h3
    exact h3.mono hc hs
  refine ⟨U, ?_, .threw T.heap.size, hrun, hend, Or.inr ⟨T.heap.size, rfl, cls, ce, locs, hx U hWs.alike f1 (fun q hq => f2 q hq (fun z hz => nomatch hz)), hce, hO.vm, hcl, hWs, hall, hf⟩⟩
  refine st1 _ ?_
  show Steps p.tables e below (T1.setTop { method := m, pc := pc + 3, locals := ls, stack := .ref T.heap.size :: rest, locked := none }) _
  jvm_step X₁.here [X₁.here.top, hexec, d3', Value.category]
  exact X₁.ldcStringW hexec (own := own) (text := text) (index := is) (a := sa) hown' hstr'.1 hstr'.2
    (g := { method := m, pc := pc + 4, locals := ls, stack := .ref T.heap.size :: .ref T.heap.size :: rest, locked := none }) rfl d4' _ hsteps
end Ends
section Bodies
variable {l : Launch}
theorem vx_ofW {y : MethodName} {ws ws' : List Cond} {rm : Room} {Pc : Array Value → State → Prop} {Qc : Array Value → State → Outcome → State → Prop} {XC : String → State → State → Prop} {mc ms : Nat} {free : Addr → Prop} {cc : ByteArray} {maxL : Nat} {ret : Option FieldType}
    (hy : plainName y.cls = true) (hw : ws = Cond.code y cc maxL ret :: ws')
    (body : ∀ p e s m args below meth c s₁, BodyLoose p l y (headSpec ws rm) cc maxL ret e s m args below meth c s₁ → c.maxLocals = maxL → (∀ x ∈ c.exceptionTable.toList, False) → Pc args s →
      W p l e (headSpec ws rm).room s m args below meth c s.heap [] 0 0 (vx_MQ below Qc XC args s mc ms free) (entryFrame m args maxL)) : vx_Met l y ws rm Pc Qc XC mc ms free := by
  refine MetFree.of_bodyS (code := cc) (maxLocals := maxL) (ret := ret) hy ?_ ?_
  · intro args s m h hn
    obtain ⟨meth, c, h1, h2, h3, h4, h5, h6, -, -⟩ := Cond.code_spec hn (atoms_spec (ws := ws) h _ (by rw [hw]; exact List.mem_cons_self))
    exact ⟨meth, c, h1, h2, h3, h4, h5, h6⟩
  · intro p e s m args below meth c s₁ B hml hP _
    have hh0 : s₁.heap = s.heap := by rw [B.state]; rfl
    have ht : ∀ x ∈ c.exceptionTable.toList, False := by
      obtain ⟨meth9, c9, h1, h2, -, -, -, -, h7, -⟩ := Cond.code_spec B.named (atoms_spec (ws := ws) B.pre _ (by rw [hw]; exact List.mem_cons_self))
      cases Option.some.inj (h1.symm.trans B.method)
      cases Option.some.inj (h2.symm.trans (Stand.of_body B).code)
      intro x hx
      rw [Array.isEmpty_iff.mp h7] at hx
      cases hx
    obtain ⟨t, a1, o, b1, b2, b3⟩ := body p e s m args below meth c s₁ B hml ht hP s₁ hh0 (Stand.of_body B)
    exact ⟨t, o, a1, b1, b2, b3⟩
/-- the table of a body with handlers -/
theorem vx_table {p : Program} {x y : MethodName} {S : Spec} {cc bytes : ByteArray} {maxL maxL' : Nat} {ret ret' : Option FieldType} {e : Env} {s s₁ : State} {m : MethodId} {args : Array Value} {below : List Frame} {meth : Method} {c : Code} {hh : List (Nat × Nat × Nat × Nat)}
    (B : BodyLoose p l y S cc maxL ret e s m args below meth c s₁) (h : (Cond.codeWith y bytes maxL' ret' hh).before args s = true) : c.exceptionTable.toList = tableOf hh := by
  obtain ⟨m9, meth9, c9, hn9, h1, h2, -, -, h6, -⟩ := Cond.codeWith_spec h
  cases Option.some.inj (hn9.symm.trans B.named)
  cases Option.some.inj (h1.symm.trans B.method)
  cases Option.some.inj (h2.symm.trans (Stand.of_body B).code)
  rw [← h6, table_eq]
end Bodies
end VXA
/-! ===== END ===== -/
/-! ===== BEGIN a static call of a method with an exception table ===== -/
section VXS
variable {p : Program} {l : Launch} {e : Env} {R : Room} {s : State} {m : MethodId} {args : Array Value} {below : List Frame} {meth : Method} {c : Code} {T : State} {H : Heap} {locs : List Loc} {cells slots : Nat}
abbrev vx_CSW (R : Room) (s : State) (args : Array Value) (own : String) (index : Nat) (y : MethodName) (bytes : ByteArray) (maxL : Nat) (ret : Option FieldType) (hh : List (Nat × Nat × Nat × Nat)) (ws : List Cond) (rm : Room) (mc ms n : Nat) : Prop :=
  (rm.cells = mc ∧ rm.slots = ms ∧ rm.frames + 1 ≤ R.frames ∧ 8 + (maxL + 11) + rm.locals ≤ R.locals ∧ (∀ w ∈ ws, ∀ (a' : Array Value) (U : State), s.WarmedH U.vm → w.before a' U = true) ∧ Cond.codeWith y bytes maxL ret hh ∈ ws) ∧
  (Cond.codeWith y bytes maxL ret hh).before args s = true ∧ (Cond.initialized y.cls).before args s = true ∧ (y.cls ≠ "java/lang/invoke/MethodHandle" ∧ y.cls ≠ "java/lang/invoke/VarHandle") ∧
  (∀ sig, parseMethodDescriptor y.desc = some sig → n = sig.parameters.length) ∧ (Cond.methodLink own index y).before args s = true ∧ (Cond.static y).before args s = true
theorem vx_cwSW {own : String} {index maxL mc ms : Nat} {y : MethodName} {bytes : ByteArray} {ret : Option FieldType} {hh : List (Nat × Nat × Nat × Nat)} {Ts ws ws' : List Cond} {rm : Room} (n : Nat) (ht : ∀ w ∈ Ts, w.before args s = true) (hT : GoodIn Ts (va_wsS own index y ws)) (hw : ws = Cond.codeWith y bytes maxL ret hh :: ws') (hrc : rm.cells = mc) (hrs : rm.slots = ms)
    (hd : y.cls ≠ "java/lang/invoke/MethodHandle" ∧ y.cls ≠ "java/lang/invoke/VarHandle" ∧ (parseMethodDescriptor y.desc).map (fun d => d.parameters.length) = some n) (hR : rm.frames + 1 ≤ R.frames ∧ 8 + (maxL + 11) + rm.locals ≤ R.locals) :
    vx_CSW R s args own index y bytes maxL ret hh ws rm mc ms n := by
  have ok : ∀ w ∈ va_wsS own index y ws, w.before args s = true := fun w h => ht w (hT w h).1
  have hG : GoodIn Ts ws := fun w h => hT w (by unfold va_wsS; exact List.mem_append_right _ h)
  have hc : Cond.codeWith y bytes maxL ret hh ∈ ws := by rw [hw]; exact List.mem_cons_self
  refine ⟨⟨hrc, hrs, hR.1, hR.2, pay_in ht hG, hc⟩, ht _ (hG _ hc).1, ok _ (by simp [va_wsS]), ⟨hd.1, hd.2.1⟩, fun sig h => ?_, ok _ (by simp [va_wsS]), ok _ (by simp [va_wsS])⟩
  have h2 := hd.2.2
  rw [h] at h2
  exact (Option.some.inj h2).symm
theorem vx_callSW (X : Stand p l e R s m args below meth c T locs cells slots) (hexec : p.tables.exec = Jvm.exec) {own : String} {index : Nat} {y : MethodName} {bytes : ByteArray} {maxL : Nat} {ret : Option FieldType} {hh : List (Nat × Nat × Nat × Nat)}
    (hown : s.vm.findClass own = some m.cls) (hlink : (Cond.methodLink own index y).before args s = true) (hstat : (Cond.static y).before args s = true) (hinit : (Cond.initialized y.cls).before args s = true)
    (hcode : (Cond.codeWith y bytes maxL ret hh).before args s = true) (hy : y.cls ≠ "java/lang/invoke/MethodHandle" ∧ y.cls ≠ "java/lang/invoke/VarHandle")
    {W9 : Nat} {Pre : Pt → Array Value → Prop} {Post : Pt → Array Value → Option Value → Pt → Prop} (hK : Back l R p e below s args y 3 W9 Pre Post)
    {g : JFrame} (hg : g.method = m) (hsize : g.locals.size = c.maxLocals) {argsL rest : List Value} (hlen : ∀ sig, parseMethodDescriptor y.desc = some sig → argsL.length = sig.parameters.length)
    (hstack : g.stack = argsL.reverse ++ rest) (hW : 2 * g.monitorRoom + (rest.map fun v => v.category).sum ≤ W9) (hdg : decode c.code g.pc = .ok (.invokestatic index, 3))
    (hpre : ∀ vm₁, s.WarmedH vm₁ → Pre ⟨T.setVm vm₁, locs, cells, slots⟩ argsL.toArray) :
    ∃ (v : Option Value) (vm₁ : Vm) (B : Pt), s.WarmedH vm₁ ∧ Stand p l e R s m args below meth c B.U B.locs B.cells B.slots ∧ Post ⟨T.setVm vm₁, locs, cells, slots⟩ argsL.toArray v B ∧
      ∀ target, Steps p.tables e below (B.U.setTop { g with pc := g.pc + 3, stack := v.toList ++ rest }) target → Steps p.tables e below (T.setTop g) target := by
  obtain ⟨mk, methM, cM, hnamed, hmethM, -, -, -, -, -, -, hsigM⟩ := Cond.codeWith_spec hcode
  have hstatic : methM.isStatic = true := Cond.static_spec hnamed hmethM hstat
  obtain ⟨kP, hkP, -⟩ := className_of_methodNamed hnamed
  have hinitP : kP.init = .initialized := Cond.initialized_spec (findClass_of_methodNamed hnamed) hkP hinit
  obtain ⟨vm₁, X₁, hstep₁⟩ := X.invokestatic hexec hown hlink hnamed hmethM hstatic hkP hinitP hy (g := g) hg (argsL := argsL) (rest := rest) (hlen _ hsigM) hstack hdg
  obtain ⟨v, B, X', hpost, hsteps⟩ := hK m meth c ⟨T.setVm vm₁, locs, cells, slots⟩ { g with stack := rest } (.invokestatic index) mk argsL.toArray X₁ hg hsize hdg hW (X₁.named hnamed) (hpre vm₁ X₁.warmed)
  exact ⟨v, vm₁, B, X₁.warmed, X', hpost, fun target h => hstep₁ _ fun acts => by rw [doInvoke_state]; exact hsteps.trans h⟩
theorem vx_runSW {y : MethodName} {bytes cc : ByteArray} {maxL nL mc ms n index : Nat} {ret : Option FieldType} {hh : List (Nat × Nat × Nat × Nat)} {ws : List Cond} {rm : Room} {Pc : Array Value → State → Prop} {Qc : Array Value → State → Outcome → State → Prop} {free : Addr → Prop} {Ts : List Cond} {own : String} {As rest : List Value} {g : JFrame}
    (S : CallFix p m c cc nL s args Ts own) (hM : Met l y ws rm Pc Qc mc ms free) (cw : vx_CSW R s args own index y bytes maxL ret hh ws rm mc ms n) (hp : PreS s H Pc As)
    (hg : g.method = m) (hn : As.length = n) (hsize : g.locals.size = nL) (hstack : g.stack = As.reverse ++ rest) (hW : 2 * g.monitorRoom + (rest.map fun v => v.category).sum ≤ 8) (hdg : decode cc g.pc = .ok (.invokestatic index, 3)) (hf : cells + mc ≤ R.cells ∧ slots + ms ≤ R.slots) :
    va_Run p l e R s m args below meth c H locs cells slots mc ms g rest (Qc As.toArray) (free) := by
  obtain ⟨⟨hrc, hrs, hfr, hlo, hws, hcw⟩, hcode, hini, hy, hlen, hl, hstt⟩ := cw
  have hK : Back l R p e below s args y 3 8 (PreOf R mc ms Pc) (PostOf Qc mc ms free) := va_backW (hh := hh) (bytes := bytes) (maxL := maxL) (ret := ret) hM hp.1 hrc hrs hfr hlo hws hcw (fun a' U hW => word_at hW (Or.inl (by first | rfl | simp [Cond.onTables, Cond.keeps, Cond.steady])) hini)
  obtain ⟨hx, hb, hml, ho, -⟩ := S
  intro T hT X
  obtain ⟨v, vm₁, ⟨U', l2, c2, s2⟩, hW₁, X', ⟨g', mk, t, L, e1, e2, hq, h1, hL, h2, h3⟩, st⟩ := vx_callSW X hx (hh := hh) (bytes := bytes) (maxL := maxL) (ret := ret) ho hl hstt hini hcode hy hK hg (hsize.trans hml.symm) (argsL := As) (rest := rest) (fun sig h => hn.trans (hlen sig h)) hstack hW (by rw [hb]; exact hdg)
    (fun vm₁ hW₁ => ⟨hf.1, hf.2, hp.2 (T.setVm vm₁) hT hW₁⟩)
  dsimp only [Pt.U, Pt.locs, Pt.cells, Pt.slots] at X' e1 e2 h1 h2 h3 st
  subst h1; subst h2; subst h3
  exact ⟨v, (T.setVm vm₁).calling g' mk As.toArray, t, U', L, hT, X', hL, e1, e2, hq, st⟩
/-- not caught here, past rows that name other classes: it goes on to the caller -/
theorem vx_outP {p : Program} {l : Launch} {e : Env} {R : Room} {s : State} {m : MethodId} {args : Array Value} {below : List Frame} {meth : Method} {c : Code} {H : Heap} {locs : List Loc} {cells slots : Nat} {free : Addr → Prop} {ls : Array Slot} {rest : List Value} {Qc : Array Value → State → Outcome → State → Prop} {XC : String → State → State → Prop}
    {pc : Nat} {own E : String} {ce : Cell} {q : Addr} {mc ms : Nat} (hown : s.vm.findClass own = some m.cls) (hlocks : meth.locks = false)
    (hpass : ∀ z ∈ c.exceptionTable.toList, covers z pc = false ∨ (z.catchType ≠ 0 ∧ ∃ nm : String, (Cond.classLink own z.catchType nm).before args s = true ∧ va_Nc E nm s)) (hcell : H[q]? = some ce) (hv : ce.vm = .none) (hcl : s.vm.findClass E = some ce.cls)
    (hx : ∀ t : State, t.heap = H → s.vm.Alike t.vm → XC E s t) (hf : ∀ z ∈ locs, free z.base) (hc : cells ≤ mc) (hs : slots ≤ ms) :
    vx_W p l e R s m args below meth c H locs cells slots (vx_MQ below Qc XC args s mc ms free) (F0 m pc ls rest) q := by
  intro T hT X
  have hpl : e.platform.magicAccessors = ({} : Platform).magicAccessors := by rw [X.admits.platform]
  obtain ⟨vm', hW', X', st⟩ := X.outThrough hlocks q (g := F0 m pc ls rest) rfl rfl rfl (cell := ce) (by rw [hT]; exact hcell) (by rw [hv]; rfl)
    (by obtain ⟨k9, h9, -⟩ := Vm.findClass_spec hcl; exact ⟨k9, h9⟩) (fun z hz => by
      rcases hpass z hz with h | ⟨hz0, nm, hl1, hn1⟩
      · exact Or.inl h
      · obtain ⟨c6, hc6, hcl6⟩ := Cond.classLink_spec hown hl1 e.platform hpl
        obtain ⟨a8, b8, h1, h2, h3⟩ := hn1
        cases Option.some.inj (h1.symm.trans hcl)
        cases Option.some.inj (h2.symm.trans hc6)
        exact Or.inr ⟨hz0, _, hcl6, h3⟩)
  obtain ⟨g₀, hfr⟩ := X'.frames_eq
  have hcell9 : ((T.setVm vm').setFrames (.throwing q :: below)).heap[q]? = some ce := by
    show T.heap[q]? = some ce
    rw [hT]; exact hcell
  have hend : Ended ((T.setVm vm').setFrames (.throwing q :: below)) below (.threw q) := State.frames_setFrames _ (State.cur_lt_of_frames hfr)
  refine ⟨(T.setVm vm').setFrames (.throwing q :: below), ?_, .threw q, X'.here.running, hend, Or.inr ⟨q, rfl, E, ce, locs, hx _ hT (X'.ends _).1.alike, hcell9, hv, hcl, (X'.ends _).1, (X'.ends _).2.mono hc hs, hf⟩⟩
  rw [X.pushThrowing_eq]
  exact st
/-- a thing of a world lies in the heap -/
theorem vx_lt {D : va_G} {cl : List vw_C} {ws : va_W} {H1 : Heap} (h : va_P D cl ws H1) {k : Nat} {q : Nat × va_E} (hk : ws[k]? = some q) : q.1 < H1.size := (h k q hk).lt
end VXS
/-! ===== END ===== -/
/-! ===== BEGIN methods with a table of their own: called by a name, returning or throwing ===== -/
section VXH
/-! vx_backW, vx_callVX, vx_callSX, vx_callVW, vx_runVW, vx_runVX, vx_runSX, vx_ofWH follow the same proofs as their sisters above (Free/Laws.lean, Shelf42/LK1.lean); vx_outP calls Shelf42/NT130.lean (outThrough). -/
section
variable {l : Launch} {R : Room} {p : Program} {e : Env} {below : List Frame} {s : State} {sargs : Array Value} {y : MethodName} {len W9 : Nat}
theorem vx_backW {ws : List Cond} {rm : Room} {Pc : Array Value → State → Prop} {Qc : Array Value → State → Outcome → State → Prop} {XC : String → State → State → Prop} {mc ms : Nat} {free : Addr → Prop} {bytes : ByteArray} {maxL : Nat} {ret : Option FieldType} {hh : List (Nat × Nat × Nat × Nat)}
    (hM : vx_Met l y ws rm Pc Qc XC mc ms free) (hblind : FrameBlind Pc) (hrc : rm.cells = mc) (hrs : rm.slots = ms)
    (hframes : rm.frames + 1 ≤ R.frames) (hlocals : W9 + (maxL + 11) + rm.locals ≤ R.locals)
    (hws : ∀ w ∈ ws, ∀ a' U, s.WarmedH U.vm → w.before a' U = true) (hcode : Cond.codeWith y bytes maxL ret hh ∈ ws) (hinit : ∀ a' U, s.WarmedH U.vm → (Cond.initialized y.cls).before a' U = true) :
    vx_Back l R p e below s sargs y len W9 (PreOf R mc ms Pc) (PostOf Qc mc ms free) (vx_Post XC mc ms free) := by
  intro m meth c A g ig mk a X hg hsize hdg hW hn hp
  have h1 : (headSpec ws rm).pre.before a A.U = true := atoms_intro fun w hw => hws w hw _ _ X.warmed
  have h2 : (Cond.codeWith y bytes maxL ret hh).before a A.U = true := hws _ hcode _ _ X.warmed
  have h3 : (Cond.initialized y.cls).before a A.U = true := hinit _ _ X.warmed
  have h4 : A.cells + (headSpec ws rm).room.cells ≤ R.cells := by rw [show (headSpec ws rm).room.cells = mc from hrc]; exact hp.1
  have h5 : A.slots + (headSpec ws rm).room.slots ≤ R.slots := by rw [show (headSpec ws rm).room.slots = ms from hrs]; exact hp.2.1
  have hPc : Pc a (A.U.calling g mk a) := hblind _ _ _ _ hp.2.2
  obtain ⟨U, Ls, c0, s0⟩ := A
  dsimp only [Pt.U, Pt.locs, Pt.cells, Pt.slots] at h1 h2 h3 h4 h5 X hn hPc ⊢
  obtain ⟨m9, methY, cY, hn9, hmY, hcY, -, hlY, -⟩ := Cond.codeWith_spec h2
  cases Option.some.inj (hn9.symm.trans hn)
  obtain ⟨kY, hkY, -⟩ := className_of_methodNamed hn
  have hinitY : kY.init = .initialized := Cond.initialized_spec (findClass_of_methodNamed hn) hkY h3
  have h : At U g.method c below := by rw [hg]; exact X.here
  have hlocals9 : W9 + (maxL + 11) + (headSpec ws rm).room.locals ≤ R.locals := hlocals
  have happ : (headSpec ws rm).appliesLoose y e.platform (U.calling g mk a) = true :=
    Spec.appliesLoose_calling (g := g) h hdg hn hkY hinitY
      (X.room_calling (g := g) (R' := (headSpec ws rm).room) hsize hmY hcY hframes (by rw [hlY]; omega) h4 h5) h1
  obtain ⟨mid, hmid⟩ := h.above
  have hfr : (U.setTop g).frames = (.java g :: mid) ++ below := by rw [State.frames_setTop' g h.top, hmid]; rfl
  obtain ⟨o, s₂, hsteps, -, hend, hq⟩ := Steps.callFree hM p X.admits X.cas X.clock (acts := []) hfr happ hPc trivial
  have hq' : vx_Q Qc XC mc ms free a (U.calling g mk a) o s₂ := hq
  rw [State.frames_setTop' g h.top] at hend
  obtain ⟨g₀, hg0⟩ := Option.isSome_iff_exists.mp h.top
  obtain ⟨r, hr⟩ := State.topJava?_eq_some.mp hg0
  have hr' : (({ U with heap := s₂.heap, slotsUsed := s₂.slotsUsed } : State).setVm s₂.vm).frames = .java g₀ :: r := hr
  rcases hq' with ⟨hqc, L, hfe, hL⟩ | ⟨q, rfl, E, ce, L, hx, hce, hcv, hcl, hW₂, hsm, hL⟩
  · obtain ⟨⟨v, rfl⟩, hW₂, e2, q2, q3, q4, q5, q6⟩ := id hfe
    have e3 : s₂ = ({ (U.calling g mk a).setFrames s₂.frames with heap := s₂.heap, slotsUsed := s₂.slotsUsed } : State).setVm s₂.vm := by
      have : s₂ = ({ s₂ with vm := (U.calling g mk a).vm } : State).setVm s₂.vm := rfl
      rw [e2] at this
      exact this
    obtain ⟨c₂, i₂, len₂, hc₂, hd₂, hf₂⟩ := hend
    have hW' : U.WarmedH s₂.vm := hW₂
    have hcc : c₂ = c := by
      have h1 : s₂.code? g.method = U.code? g.method := by
        rw [State.code?_eq, State.code?_eq, hW'.alike.method?]
      exact Option.some.inj (hc₂.symm.trans (h1.trans h.code))
    subst hcc
    have hlen : len₂ = len := by rw [hdg] at hd₂; cases hd₂; rfl
    subst hlen
    have hs₂ : s₂ = (({ U with heap := s₂.heap, slotsUsed := s₂.slotsUsed } : State).setVm s₂.vm).setTop { g with pc := g.pc + len₂, stack := v.toList ++ g.stack } := by
      refine e3.trans ?_
      rw [hf₂, State.calling_eq h.top, State.setFrames_setFrames, State.setTop_of_frames _ hr', hr]
      rfl
    have hsame : U.sameButNew ({ U with heap := s₂.heap, slotsUsed := s₂.slotsUsed } : State) L mc ms := by
      refine ⟨?_, q2, q3, q4, q5, q6⟩
      obtain ⟨t, ht, -⟩ := State.frames_cons hr
      show ({ U with heap := s₂.heap, slotsUsed := s₂.slotsUsed } : State) = { U.setFrames U.frames with heap := s₂.heap, slotsUsed := s₂.slotsUsed }
      rw [State.setFrames_self ht]
    subst hg
    refine Or.inl ⟨v, ⟨(({ U with heap := s₂.heap, slotsUsed := s₂.slotsUsed } : State).setVm s₂.vm), Ls ++ L, c0 + mc, s0 + ms⟩,
      ⟨X.admits, X.cas, X.clock, X.frames, X.room, X.hears, X.method, X.code, (X.here.setHeapUsed s₂.heap s₂.slotsUsed).setVm hW'.alike, X.tail, State.WarmedH.trans X.warmed hW', X.limits, X.bytes, X.same.trans (hsame.setVm s.vm)⟩,
      ⟨g, mk, s₂, L, rfl, rfl, hqc, rfl, hL, rfl, rfl⟩, ?_⟩
    show Steps p.tables e below _ ((({ U with heap := s₂.heap, slotsUsed := s₂.slotsUsed } : State).setVm s₂.vm).setTop { g with pc := g.pc + len₂, stack := v.toList ++ g.stack })
    rw [← hs₂]
    exact hsteps
  · obtain ⟨e2, q2, q3, q4, q5, q6⟩ := id hsm
    have e3 : s₂ = ({ (U.calling g mk a).setFrames s₂.frames with heap := s₂.heap, slotsUsed := s₂.slotsUsed } : State).setVm s₂.vm := by
      have : s₂ = ({ s₂ with vm := (U.calling g mk a).vm } : State).setVm s₂.vm := rfl
      rw [e2] at this
      exact this
    have hf₂ : s₂.frames = .throwing q :: .java g :: U.frames.tail := hend
    have hW' : U.WarmedH s₂.vm := hW₂
    have hs₂ : s₂ = ((({ U with heap := s₂.heap, slotsUsed := s₂.slotsUsed } : State).setVm s₂.vm).setTop g).pushFrame (.throwing q) := by
      refine e3.trans ?_
      rw [hf₂, State.calling_eq h.top, State.setFrames_setFrames, State.pushFrame, State.frames_setTop _ hr', State.setTop_of_frames _ hr', State.setFrames_setFrames, hr]
      rfl
    have hsame : U.sameButNew ({ U with heap := s₂.heap, slotsUsed := s₂.slotsUsed } : State) L mc ms := by
      refine ⟨?_, q2, q3, q4, q5, q6⟩
      obtain ⟨t, ht, -⟩ := State.frames_cons hr
      show ({ U with heap := s₂.heap, slotsUsed := s₂.slotsUsed } : State) = { U.setFrames U.frames with heap := s₂.heap, slotsUsed := s₂.slotsUsed }
      rw [State.setFrames_self ht]
    subst hg
    refine Or.inr ⟨q, ⟨(({ U with heap := s₂.heap, slotsUsed := s₂.slotsUsed } : State).setVm s₂.vm), Ls ++ L, c0 + mc, s0 + ms⟩,
      ⟨X.admits, X.cas, X.clock, X.frames, X.room, X.hears, X.method, X.code, (X.here.setHeapUsed s₂.heap s₂.slotsUsed).setVm hW'.alike, X.tail, State.WarmedH.trans X.warmed hW', X.limits, X.bytes, X.same.trans (hsame.setVm s.vm)⟩,
      ⟨g, mk, s₂, L, E, ce, rfl, rfl, hx, hce, hcv, hcl, rfl, hL, rfl, rfl⟩, ?_⟩
    show Steps p.tables e below _ (((({ U with heap := s₂.heap, slotsUsed := s₂.slotsUsed } : State).setVm s₂.vm).setTop g).pushFrame (.throwing q))
    rw [← hs₂]
    exact hsteps
end
variable {p : Program} {l : Launch} {e : Env} {R : Room} {s : State} {m : MethodId} {args : Array Value} {below : List Frame} {meth : Method} {c : Code} {T : State} {H : Heap} {locs : List Loc} {cells slots : Nat}
theorem vx_callVX (X : Stand p l e R s m args below meth c T locs cells slots) (hexec : p.tables.exec = Jvm.exec) {own C : String} {index : Nat} {y : MethodName} {bytes : ByteArray} {maxL : Nat} {ret : Option FieldType} {hh : List (Nat × Nat × Nat × Nat)}
    (hown : s.vm.findClass own = some m.cls) (hlink : (Cond.methodLink own index y).before args s = true) (hinst : (Cond.instanceMethod y).before args s = true) (hsel : (Cond.selects C y y).before args s = true)
    (hcode : (Cond.codeWith y bytes maxL ret hh).before args s = true) (hy : y.cls ≠ "java/lang/invoke/MethodHandle" ∧ y.cls ≠ "java/lang/invoke/VarHandle")
    {W9 : Nat} {Pre : Pt → Array Value → Prop} {Post : Pt → Array Value → Option Value → Pt → Prop} {PostX : Pt → Array Value → Addr → Pt → Prop} (hK : vx_Back l R p e below s args y 3 W9 Pre Post PostX)
    {b : Addr} {cellB : Cell} (hcell : T.heap[b]? = some cellB) (hobj : cellB.vm.isStatics = false) (hcls : s.vm.findClass C = some cellB.cls)
    {g : JFrame} (hg : g.method = m) (hsize : g.locals.size = c.maxLocals) {argsL rest : List Value} (hlen : ∀ sig, parseMethodDescriptor y.desc = some sig → argsL.length = sig.parameters.length)
    (hstack : g.stack = argsL.reverse ++ .ref b :: rest) (hW : 2 * g.monitorRoom + (rest.map fun v => v.category).sum ≤ W9) (hdg : decode c.code g.pc = .ok (.invokevirtual index, 3))
    (hpre : ∀ vm₁, s.WarmedH vm₁ → Pre ⟨T.setVm vm₁, locs, cells, slots⟩ (Value.ref b :: argsL).toArray) :
    (∃ (v : Option Value) (vm₁ : Vm) (B : Pt), s.WarmedH vm₁ ∧ Stand p l e R s m args below meth c B.U B.locs B.cells B.slots ∧ Post ⟨T.setVm vm₁, locs, cells, slots⟩ (Value.ref b :: argsL).toArray v B ∧
      ∀ target, Steps p.tables e below (B.U.setTop { g with pc := g.pc + 3, stack := v.toList ++ rest }) target → Steps p.tables e below (T.setTop g) target) ∨
    (∃ (q : Addr) (vm₁ : Vm) (B : Pt), s.WarmedH vm₁ ∧ Stand p l e R s m args below meth c B.U B.locs B.cells B.slots ∧ PostX ⟨T.setVm vm₁, locs, cells, slots⟩ (Value.ref b :: argsL).toArray q B ∧
      Steps p.tables e below (T.setTop g) ((B.U.setTop { g with stack := rest }).pushFrame (.throwing q))) := by
  obtain ⟨mk, methM, hnamed, hmethM, hstM, habM⟩ := Cond.instanceMethod_spec hinst
  obtain ⟨m8, methM', cM, hn8, hmethM', -, -, -, -, -, -, hsigM⟩ := Cond.codeWith_spec hcode
  cases Option.some.inj (hn8.symm.trans hnamed)
  cases hmethM.symm.trans hmethM'
  obtain ⟨c2, r2, m2, q1, q2, q3, q4, kP, hkP, hkPi⟩ := Cond.selects_spec hsel
  cases hcls.symm.trans q1
  cases (State.methodFound?_of_named hnamed hy).symm.trans q2
  cases hnamed.symm.trans q3
  have hselP : selectMethod e.platform s.vm cellB.cls mk = .method mk := by rw [Launch.admits_selectMethod X.admits]; exact q4
  obtain ⟨vm₁, X₁, hstep₁⟩ := X.invokevirtual hexec hown hlink hnamed hmethM hstM hkP hkPi hy (a := b) (cell := cellB) hcell
    (fun z h => by rw [h] at hobj; cases hobj) hselP hmethM habM hkP hkPi (g := g) hg (argsL := argsL) (rest := rest) (hlen _ hsigM) hstack hdg
  rcases hK m meth c ⟨T.setVm vm₁, locs, cells, slots⟩ { g with stack := rest } (.invokevirtual index) mk (Value.ref b :: argsL).toArray X₁ hg hsize hdg hW (X₁.named hnamed) (hpre vm₁ X₁.warmed) with ⟨v, B, X', hpost, hsteps⟩ | ⟨q, B, X', hpost, hsteps⟩
  · exact Or.inl ⟨v, vm₁, B, X₁.warmed, X', hpost, fun target h => hstep₁ _ fun acts => by rw [doInvoke_state]; exact hsteps.trans h⟩
  · exact Or.inr ⟨q, vm₁, B, X₁.warmed, X', hpost, hstep₁ _ fun acts => by rw [doInvoke_state]; exact hsteps⟩
theorem vx_callSX (X : Stand p l e R s m args below meth c T locs cells slots) (hexec : p.tables.exec = Jvm.exec) {own : String} {index : Nat} {y : MethodName} {bytes : ByteArray} {maxL : Nat} {ret : Option FieldType} {hh : List (Nat × Nat × Nat × Nat)}
    (hown : s.vm.findClass own = some m.cls) (hlink : (Cond.methodLink own index y).before args s = true) (hstat : (Cond.static y).before args s = true) (hinit : (Cond.initialized y.cls).before args s = true)
    (hcode : (Cond.codeWith y bytes maxL ret hh).before args s = true) (hy : y.cls ≠ "java/lang/invoke/MethodHandle" ∧ y.cls ≠ "java/lang/invoke/VarHandle")
    {W9 : Nat} {Pre : Pt → Array Value → Prop} {Post : Pt → Array Value → Option Value → Pt → Prop} {PostX : Pt → Array Value → Addr → Pt → Prop} (hK : vx_Back l R p e below s args y 3 W9 Pre Post PostX)
    {g : JFrame} (hg : g.method = m) (hsize : g.locals.size = c.maxLocals) {argsL rest : List Value} (hlen : ∀ sig, parseMethodDescriptor y.desc = some sig → argsL.length = sig.parameters.length)
    (hstack : g.stack = argsL.reverse ++ rest) (hW : 2 * g.monitorRoom + (rest.map fun v => v.category).sum ≤ W9) (hdg : decode c.code g.pc = .ok (.invokestatic index, 3))
    (hpre : ∀ vm₁, s.WarmedH vm₁ → Pre ⟨T.setVm vm₁, locs, cells, slots⟩ argsL.toArray) :
    (∃ (v : Option Value) (vm₁ : Vm) (B : Pt), s.WarmedH vm₁ ∧ Stand p l e R s m args below meth c B.U B.locs B.cells B.slots ∧ Post ⟨T.setVm vm₁, locs, cells, slots⟩ argsL.toArray v B ∧
      ∀ target, Steps p.tables e below (B.U.setTop { g with pc := g.pc + 3, stack := v.toList ++ rest }) target → Steps p.tables e below (T.setTop g) target) ∨
    (∃ (q : Addr) (vm₁ : Vm) (B : Pt), s.WarmedH vm₁ ∧ Stand p l e R s m args below meth c B.U B.locs B.cells B.slots ∧ PostX ⟨T.setVm vm₁, locs, cells, slots⟩ argsL.toArray q B ∧
      Steps p.tables e below (T.setTop g) ((B.U.setTop { g with stack := rest }).pushFrame (.throwing q))) := by
  obtain ⟨mk, methM, cM, hnamed, hmethM, -, -, -, -, -, -, hsigM⟩ := Cond.codeWith_spec hcode
  have hstatic : methM.isStatic = true := Cond.static_spec hnamed hmethM hstat
  obtain ⟨kP, hkP, -⟩ := className_of_methodNamed hnamed
  have hinitP : kP.init = .initialized := Cond.initialized_spec (findClass_of_methodNamed hnamed) hkP hinit
  obtain ⟨vm₁, X₁, hstep₁⟩ := X.invokestatic hexec hown hlink hnamed hmethM hstatic hkP hinitP hy (g := g) hg (argsL := argsL) (rest := rest) (hlen _ hsigM) hstack hdg
  rcases hK m meth c ⟨T.setVm vm₁, locs, cells, slots⟩ { g with stack := rest } (.invokestatic index) mk argsL.toArray X₁ hg hsize hdg hW (X₁.named hnamed) (hpre vm₁ X₁.warmed) with ⟨v, B, X', hpost, hsteps⟩ | ⟨q, B, X', hpost, hsteps⟩
  · exact Or.inl ⟨v, vm₁, B, X₁.warmed, X', hpost, fun target h => hstep₁ _ fun acts => by rw [doInvoke_state]; exact hsteps.trans h⟩
  · exact Or.inr ⟨q, vm₁, B, X₁.warmed, X', hpost, hstep₁ _ fun acts => by rw [doInvoke_state]; exact hsteps⟩
theorem vx_callVW (X : Stand p l e R s m args below meth c T locs cells slots) (hexec : p.tables.exec = Jvm.exec) {own C : String} {index : Nat} {y : MethodName} {bytes : ByteArray} {maxL : Nat} {ret : Option FieldType} {hh : List (Nat × Nat × Nat × Nat)}
    (hown : s.vm.findClass own = some m.cls) (hlink : (Cond.methodLink own index y).before args s = true) (hinst : (Cond.instanceMethod y).before args s = true) (hsel : (Cond.selects C y y).before args s = true)
    (hcode : (Cond.codeWith y bytes maxL ret hh).before args s = true) (hy : y.cls ≠ "java/lang/invoke/MethodHandle" ∧ y.cls ≠ "java/lang/invoke/VarHandle")
    {W9 : Nat} {Pre : Pt → Array Value → Prop} {Post : Pt → Array Value → Option Value → Pt → Prop} (hK : Back l R p e below s args y 3 W9 Pre Post)
    {b : Addr} {cellB : Cell} (hcell : T.heap[b]? = some cellB) (hobj : cellB.vm.isStatics = false) (hcls : s.vm.findClass C = some cellB.cls)
    {g : JFrame} (hg : g.method = m) (hsize : g.locals.size = c.maxLocals) {argsL rest : List Value} (hlen : ∀ sig, parseMethodDescriptor y.desc = some sig → argsL.length = sig.parameters.length)
    (hstack : g.stack = argsL.reverse ++ .ref b :: rest) (hW : 2 * g.monitorRoom + (rest.map fun v => v.category).sum ≤ W9) (hdg : decode c.code g.pc = .ok (.invokevirtual index, 3))
    (hpre : ∀ vm₁, s.WarmedH vm₁ → Pre ⟨T.setVm vm₁, locs, cells, slots⟩ (Value.ref b :: argsL).toArray) :
    ∃ (v : Option Value) (vm₁ : Vm) (B : Pt), s.WarmedH vm₁ ∧ Stand p l e R s m args below meth c B.U B.locs B.cells B.slots ∧ Post ⟨T.setVm vm₁, locs, cells, slots⟩ (Value.ref b :: argsL).toArray v B ∧
      ∀ target, Steps p.tables e below (B.U.setTop { g with pc := g.pc + 3, stack := v.toList ++ rest }) target → Steps p.tables e below (T.setTop g) target := by
  obtain ⟨mk, methM, hnamed, hmethM, hstM, habM⟩ := Cond.instanceMethod_spec hinst
  obtain ⟨m8, methM', cM, hn8, hmethM', -, -, -, -, -, -, hsigM⟩ := Cond.codeWith_spec hcode
  cases Option.some.inj (hn8.symm.trans hnamed)
  cases hmethM.symm.trans hmethM'
  obtain ⟨c2, r2, m2, q1, q2, q3, q4, kP, hkP, hkPi⟩ := Cond.selects_spec hsel
  cases hcls.symm.trans q1
  cases (State.methodFound?_of_named hnamed hy).symm.trans q2
  cases hnamed.symm.trans q3
  have hselP : selectMethod e.platform s.vm cellB.cls mk = .method mk := by rw [Launch.admits_selectMethod X.admits]; exact q4
  obtain ⟨vm₁, X₁, hstep₁⟩ := X.invokevirtual hexec hown hlink hnamed hmethM hstM hkP hkPi hy (a := b) (cell := cellB) hcell
    (fun z h => by rw [h] at hobj; cases hobj) hselP hmethM habM hkP hkPi (g := g) hg (argsL := argsL) (rest := rest) (hlen _ hsigM) hstack hdg
  obtain ⟨v, B, X', hpost, hsteps⟩ := hK m meth c ⟨T.setVm vm₁, locs, cells, slots⟩ { g with stack := rest } (.invokevirtual index) mk (Value.ref b :: argsL).toArray X₁ hg hsize hdg hW (X₁.named hnamed) (hpre vm₁ X₁.warmed)
  exact ⟨v, vm₁, B, X₁.warmed, X', hpost, fun target h => hstep₁ _ fun acts => by rw [doInvoke_state]; exact hsteps.trans h⟩
abbrev vx_CVW (R : Room) (s : State) (args : Array Value) (own C : String) (index : Nat) (y : MethodName) (bytes : ByteArray) (maxL : Nat) (ret : Option FieldType) (hh : List (Nat × Nat × Nat × Nat)) (ws : List Cond) (rm : Room) (mc ms n : Nat) : Prop :=
  (rm.cells = mc ∧ rm.slots = ms ∧ rm.frames + 1 ≤ R.frames ∧ 8 + (maxL + 11) + rm.locals ≤ R.locals ∧ (∀ w ∈ ws, ∀ (a' : Array Value) (U : State), s.WarmedH U.vm → w.before a' U = true) ∧ Cond.codeWith y bytes maxL ret hh ∈ ws) ∧
  (Cond.codeWith y bytes maxL ret hh).before args s = true ∧ (Cond.initialized y.cls).before args s = true ∧ (y.cls ≠ "java/lang/invoke/MethodHandle" ∧ y.cls ≠ "java/lang/invoke/VarHandle") ∧
  (∀ sig, parseMethodDescriptor y.desc = some sig → n = sig.parameters.length) ∧ (Cond.methodLink own index y).before args s = true ∧ (Cond.instanceMethod y).before args s = true ∧ (Cond.selects C y y).before args s = true
theorem vx_cwVW {own C : String} {index maxL mc ms : Nat} {y : MethodName} {bytes : ByteArray} {ret : Option FieldType} {hh : List (Nat × Nat × Nat × Nat)} {Ts ws ws' : List Cond} {rm : Room} (n : Nat) (ht : ∀ w ∈ Ts, w.before args s = true) (hT : GoodIn Ts (wsV own index C y ws)) (hw : ws = Cond.codeWith y bytes maxL ret hh :: ws') (hrc : rm.cells = mc) (hrs : rm.slots = ms)
    (hd : y.cls = C ∧ y.cls ≠ "java/lang/invoke/MethodHandle" ∧ y.cls ≠ "java/lang/invoke/VarHandle" ∧ (parseMethodDescriptor y.desc).map (fun d => d.parameters.length) = some n) (hR : rm.frames + 1 ≤ R.frames ∧ 8 + (maxL + 11) + rm.locals ≤ R.locals) :
    vx_CVW R s args own C index y bytes maxL ret hh ws rm mc ms n := by
  obtain ⟨hC, hd⟩ := hd
  subst hC
  have ok : ∀ w ∈ wsV own index y.cls y ws, w.before args s = true := fun w h => ht w (hT w h).1
  have hG : GoodIn Ts ws := fun w h => hT w (by unfold wsV; exact List.mem_append_right _ h)
  have hc : Cond.codeWith y bytes maxL ret hh ∈ ws := by rw [hw]; exact List.mem_cons_self
  refine ⟨⟨hrc, hrs, hR.1, hR.2, pay_in ht hG, hc⟩, ht _ (hG _ hc).1, ok _ (by simp [wsV]), ⟨hd.1, hd.2.1⟩, fun sig h => ?_, ok _ (by simp [wsV]), ok _ (by simp [wsV]), ok _ (by simp [wsV])⟩
  have h2 := hd.2.2
  rw [h] at h2
  exact (Option.some.inj h2).symm
theorem vx_runVW {y : MethodName} {bytes cc : ByteArray} {maxL nL mc ms n index : Nat} {ret : Option FieldType} {hh : List (Nat × Nat × Nat × Nat)} {ws : List Cond} {rm : Room} {Pc : Array Value → State → Prop} {Qc : Array Value → State → Outcome → State → Prop} {free : Addr → Prop} {Ts : List Cond} {own C : String} {b : Addr} {As rest : List Value} {g : JFrame}
    (S : CallFix p m c cc nL s args Ts own) (hM : Met l y ws rm Pc Qc mc ms free) (cw : vx_CVW R s args own C index y bytes maxL ret hh ws rm mc ms n) (hp : PreV s H C b Pc As)
    (hg : g.method = m) (hn : As.length = n) (hsize : g.locals.size = nL) (hstack : g.stack = As.reverse ++ .ref b :: rest) (hW : 2 * g.monitorRoom + (rest.map fun v => v.category).sum ≤ 8) (hdg : decode cc g.pc = .ok (.invokevirtual index, 3)) (hf : cells + mc ≤ R.cells ∧ slots + ms ≤ R.slots) :
    va_Run p l e R s m args below meth c H locs cells slots mc ms g rest (Qc (Value.ref b :: As).toArray) free := by
  obtain ⟨⟨hrc, hrs, hfr, hlo, hws, hcw⟩, hcode, hini, hy, hlen, hl, hin, hse⟩ := cw
  have hK : Back l R p e below s args y 3 8 (PreOf R mc ms Pc) (PostOf Qc mc ms free) := va_backW (hh := hh) (bytes := bytes) (maxL := maxL) (ret := ret) hM hp.1 hrc hrs hfr hlo hws hcw (fun a' U hW => word_at hW (Or.inl (by first | rfl | simp [Cond.onTables, Cond.keeps, Cond.steady])) hini)
  obtain ⟨hx, hb, hml, ho, -⟩ := S
  obtain ⟨-, ⟨cellB, hcB, hoB, hclB⟩, hPc⟩ := hp
  intro T hT X
  obtain ⟨v, vm₁, ⟨U', l2, c2, s2⟩, hW₁, X', ⟨g', mk, t, L, e1, e2, hq, h1, hL, h2, h3⟩, st⟩ := vx_callVW X hx (C := C) (hh := hh) (bytes := bytes) (maxL := maxL) (ret := ret) ho hl hin hse hcode hy hK (by rw [hT]; exact hcB) hoB hclB hg (hsize.trans hml.symm) (argsL := As) (rest := rest) (fun sig h => hn.trans (hlen sig h)) hstack hW (by rw [hb]; exact hdg)
    (fun vm₁ hW₁ => ⟨hf.1, hf.2, hPc (T.setVm vm₁) hT hW₁⟩)
  dsimp only [Pt.U, Pt.locs, Pt.cells, Pt.slots] at X' e1 e2 h1 h2 h3 st
  subst h1; subst h2; subst h3
  exact ⟨v, (T.setVm vm₁).calling g' mk (Value.ref b :: As).toArray, t, U', L, hT, X', hL, e1, e2, hq, st⟩
section
variable {y : MethodName} {bytes cc : ByteArray} {maxL nL mc ms n index : Nat} {ret : Option FieldType} {ws : List Cond} {rm : Room} {Pc : Array Value → State → Prop} {Qc : Array Value → State → Outcome → State → Prop} {XC : String → State → State → Prop} {free : Addr → Prop} {Ts : List Cond} {own C : String} {b : Addr} {As rest : List Value} {g : JFrame}
theorem vx_runVX {hh : List (Nat × Nat × Nat × Nat)} (S : CallFix p m c cc nL s args Ts own) (hM : vx_Met l y ws rm Pc Qc XC mc ms free) (cw : vx_CVW R s args own C index y bytes maxL ret hh ws rm mc ms n) (hp : PreV s H C b Pc As)
    (hg : g.method = m) (hn : As.length = n) (hsize : g.locals.size = nL) (hstack : g.stack = As.reverse ++ .ref b :: rest) (hW : 2 * g.monitorRoom + (rest.map fun v => v.category).sum ≤ 8) (hdg : decode cc g.pc = .ok (.invokevirtual index, 3)) (hf : cells + mc ≤ R.cells ∧ slots + ms ≤ R.slots) :
    vx_Run p l e R s m args below meth c H locs cells slots mc ms g rest (Qc (Value.ref b :: As).toArray) XC free := by
  obtain ⟨⟨hrc, hrs, hfr, hlo, hws, hcw⟩, hcode, hini, hy, hlen, hl, hin, hse⟩ := cw
  have hK : vx_Back l R p e below s args y 3 8 (PreOf R mc ms Pc) (PostOf Qc mc ms free) (vx_Post XC mc ms free) := vx_backW (hh := hh) (bytes := bytes) (maxL := maxL) (ret := ret) hM hp.1 hrc hrs hfr hlo hws hcw (fun a' U hW => word_at hW (Or.inl (by first | rfl | simp [Cond.onTables, Cond.keeps, Cond.steady])) hini)
  obtain ⟨hx, hb, hml, ho, -⟩ := S
  obtain ⟨-, ⟨cellB, hcB, hoB, hclB⟩, hPc⟩ := hp
  intro T hT X
  rcases vx_callVX X hx (C := C) (hh := hh) (bytes := bytes) (maxL := maxL) (ret := ret) ho hl hin hse hcode hy hK (by rw [hT]; exact hcB) hoB hclB hg (hsize.trans hml.symm) (argsL := As) (rest := rest) (fun sig h => hn.trans (hlen sig h)) hstack hW (by rw [hb]; exact hdg)
    (fun vm₁ hW₁ => ⟨hf.1, hf.2, hPc (T.setVm vm₁) hT hW₁⟩) with ⟨v, vm₁, ⟨U', l2, c2, s2⟩, hW₁, X', ⟨g', mk, t, L, e1, e2, hq, h1, hL, h2, h3⟩, st⟩ | ⟨q, vm₁, ⟨U', l2, c2, s2⟩, hW₁, X', ⟨g', mk, t, L, E, ce, e1, e2, hq, hce, hcv, hcl, h1, hL, h2, h3⟩, st⟩
  · dsimp only [Pt.U, Pt.locs, Pt.cells, Pt.slots] at X' e1 e2 h1 h2 h3 st
    subst h1; subst h2; subst h3
    exact Or.inl ⟨v, (T.setVm vm₁).calling g' mk (Value.ref b :: As).toArray, t, U', L, hT, X', hL, e1, e2, hq, st⟩
  · dsimp only [Pt.U, Pt.locs, Pt.cells, Pt.slots] at X' e1 e2 h1 h2 h3 st hcl
    subst h1; subst h2; subst h3
    exact Or.inr ⟨q, (T.setVm vm₁).calling g' mk (Value.ref b :: As).toArray, t, U', L, E, ce, hT, X', hL, e1, e2, hq, hce, hcv, vx_cls hW₁ hcl, st⟩
theorem vx_runSX {hh : List (Nat × Nat × Nat × Nat)} (S : CallFix p m c cc nL s args Ts own) (hM : vx_Met l y ws rm Pc Qc XC mc ms free) (cw : vx_CSW R s args own index y bytes maxL ret hh ws rm mc ms n) (hp : PreS s H Pc As)
    (hg : g.method = m) (hn : As.length = n) (hsize : g.locals.size = nL) (hstack : g.stack = As.reverse ++ rest) (hW : 2 * g.monitorRoom + (rest.map fun v => v.category).sum ≤ 8) (hdg : decode cc g.pc = .ok (.invokestatic index, 3)) (hf : cells + mc ≤ R.cells ∧ slots + ms ≤ R.slots) :
    vx_Run p l e R s m args below meth c H locs cells slots mc ms g rest (Qc As.toArray) XC free := by
  obtain ⟨⟨hrc, hrs, hfr, hlo, hws, hcw⟩, hcode, hini, hy, hlen, hl, hstt⟩ := cw
  have hK : vx_Back l R p e below s args y 3 8 (PreOf R mc ms Pc) (PostOf Qc mc ms free) (vx_Post XC mc ms free) := vx_backW (hh := hh) (bytes := bytes) (maxL := maxL) (ret := ret) hM hp.1 hrc hrs hfr hlo hws hcw (fun a' U hW => word_at hW (Or.inl (by first | rfl | simp [Cond.onTables, Cond.keeps, Cond.steady])) hini)
  obtain ⟨hx, hb, hml, ho, -⟩ := S
  intro T hT X
  rcases vx_callSX X hx (hh := hh) (bytes := bytes) (maxL := maxL) (ret := ret) ho hl hstt hini hcode hy hK hg (hsize.trans hml.symm) (argsL := As) (rest := rest) (fun sig h => hn.trans (hlen sig h)) hstack hW (by rw [hb]; exact hdg)
    (fun vm₁ hW₁ => ⟨hf.1, hf.2, hp.2 (T.setVm vm₁) hT hW₁⟩) with ⟨v, vm₁, ⟨U', l2, c2, s2⟩, hW₁, X', ⟨g', mk, t, L, e1, e2, hq, h1, hL, h2, h3⟩, st⟩ | ⟨q, vm₁, ⟨U', l2, c2, s2⟩, hW₁, X', ⟨g', mk, t, L, E, ce, e1, e2, hq, hce, hcv, hcl, h1, hL, h2, h3⟩, st⟩
  · dsimp only [Pt.U, Pt.locs, Pt.cells, Pt.slots] at X' e1 e2 h1 h2 h3 st
    subst h1; subst h2; subst h3
    exact Or.inl ⟨v, (T.setVm vm₁).calling g' mk As.toArray, t, U', L, hT, X', hL, e1, e2, hq, st⟩
  · dsimp only [Pt.U, Pt.locs, Pt.cells, Pt.slots] at X' e1 e2 h1 h2 h3 st hcl
    subst h1; subst h2; subst h3
    exact Or.inr ⟨q, (T.setVm vm₁).calling g' mk As.toArray, t, U', L, E, ce, hT, X', hL, e1, e2, hq, hce, hcv, vx_cls hW₁ hcl, st⟩
end
end VXH
theorem vx_ofWH {l : Launch} {y : MethodName} {ws ws' : List Cond} {rm : Room} {Pc : Array Value → State → Prop} {Qc : Array Value → State → Outcome → State → Prop} {XC : String → State → State → Prop} {mc ms : Nat} {free : Addr → Prop} {cc : ByteArray} {maxL : Nat} {ret : Option FieldType} {hh : List (Nat × Nat × Nat × Nat)}
    (hy : plainName y.cls = true) (hw : ws = Cond.codeWith y cc maxL ret hh :: ws')
    (body : ∀ p e s m args below meth c s₁, BodyLoose p l y (headSpec ws rm) cc maxL ret e s m args below meth c s₁ → c.maxLocals = maxL → Pc args s →
      W p l e (headSpec ws rm).room s m args below meth c s.heap [] 0 0 (vx_MQ below Qc XC args s mc ms free) (entryFrame m args maxL)) : vx_Met l y ws rm Pc Qc XC mc ms free := by
  refine MetFree.of_bodyS (code := cc) (maxLocals := maxL) (ret := ret) hy ?_ ?_
  · intro args s m h hn
    obtain ⟨m9, meth, c, hn9, h1, h2, h3, h4, -, h5, h6, -⟩ := Cond.codeWith_spec (atoms_spec (ws := ws) h _ (by rw [hw]; exact List.mem_cons_self))
    cases hn.symm.trans hn9
    exact ⟨meth, c, h1, h2, h3, h4, h5, h6⟩
  · intro p e s m args below meth c s₁ B hml hP _
    have hh0 : s₁.heap = s.heap := by rw [B.state]; rfl
    obtain ⟨t, a1, o, b1, b2, b3⟩ := body p e s m args below meth c s₁ B hml hP s₁ hh0 (Stand.of_body B)
    exact ⟨t, o, a1, b1, b2, b3⟩
/-! ===== END ===== -/
end
section
-- ===== PART A: goes FIRST, ahead of the names: the tables' words, and 'selects' of the private methods out of them =====
/-- a private method of a class that the tables say can be made, by its rows of tables_1 -/
def lw_okq (q : MethodName × Nat) : Prop := (q.1.cls ≠ "java/lang/invoke/MethodHandle" ∧ q.1.cls ≠ "java/lang/invoke/VarHandle") ∧ Cond.instantiable q.1.cls q.2 ∈ tables_1 ∧ Cond.privateMethod q.1 ∈ tables_1 ∧ Cond.instanceMethod q.1 ∈ tables_1
theorem lw_p0 : lw_okq (⟨"Covenanter", "stateIn", "(LCovenanter$Ratio;I)I"⟩, 5) := ⟨⟨by decide +kernel, by decide +kernel⟩, List.mem_of_getElem? (i := 30) (by decide +kernel), List.mem_of_getElem? (i := 118) (by decide +kernel), List.mem_of_getElem? (i := 119) (by decide +kernel)⟩
theorem lw_p1 : lw_okq (⟨"Covenanter", "isBelowWake", "(LCovenanter$Ratio;I)Z"⟩, 5) := ⟨⟨by decide +kernel, by decide +kernel⟩, List.mem_of_getElem? (i := 30) (by decide +kernel), List.mem_of_getElem? (i := 125) (by decide +kernel), List.mem_of_getElem? (i := 126) (by decide +kernel)⟩
theorem lw_p2 : lw_okq (⟨"java/lang/Throwable", "fillInStackTrace", "(I)Ljava/lang/Throwable;"⟩, 6) := ⟨⟨by decide +kernel, by decide +kernel⟩, List.mem_of_getElem? (i := 186) (by decide +kernel), List.mem_of_getElem? (i := 184) (by decide +kernel), List.mem_of_getElem? (i := 185) (by decide +kernel)⟩
theorem lw_p3 : lw_okq (⟨"Covenanter", "settleTerms", "()V"⟩, 5) := ⟨⟨by decide +kernel, by decide +kernel⟩, List.mem_of_getElem? (i := 30) (by decide +kernel), List.mem_of_getElem? (i := 237) (by decide +kernel), List.mem_of_getElem? (i := 238) (by decide +kernel)⟩
theorem lw_p4 : lw_okq (⟨"Covenanter", "push", "(LCovenanter$Formula;)I"⟩, 5) := ⟨⟨by decide +kernel, by decide +kernel⟩, List.mem_of_getElem? (i := 30) (by decide +kernel), List.mem_of_getElem? (i := 582) (by decide +kernel), List.mem_of_getElem? (i := 583) (by decide +kernel)⟩
theorem lw_p5 : lw_okq (⟨"java/util/ArrayList", "add", "(Ljava/lang/Object;[Ljava/lang/Object;I)V"⟩, 3) := ⟨⟨by decide +kernel, by decide +kernel⟩, List.mem_of_getElem? (i := 40) (by decide +kernel), List.mem_of_getElem? (i := 590) (by decide +kernel), List.mem_of_getElem? (i := 591) (by decide +kernel)⟩
theorem lw_p6 : lw_okq (⟨"java/util/ArrayList", "grow", "()[Ljava/lang/Object;"⟩, 3) := ⟨⟨by decide +kernel, by decide +kernel⟩, List.mem_of_getElem? (i := 40) (by decide +kernel), List.mem_of_getElem? (i := 594) (by decide +kernel), List.mem_of_getElem? (i := 595) (by decide +kernel)⟩
theorem lw_p7 : lw_okq (⟨"java/util/ArrayList", "grow", "(I)[Ljava/lang/Object;"⟩, 3) := ⟨⟨by decide +kernel, by decide +kernel⟩, List.mem_of_getElem? (i := 40) (by decide +kernel), List.mem_of_getElem? (i := 598) (by decide +kernel), List.mem_of_getElem? (i := 599) (by decide +kernel)⟩
theorem lw_p8 : lw_okq (⟨"Covenanter", "isTerm", "(I)Z"⟩, 5) := ⟨⟨by decide +kernel, by decide +kernel⟩, List.mem_of_getElem? (i := 30) (by decide +kernel), List.mem_of_getElem? (i := 649) (by decide +kernel), List.mem_of_getElem? (i := 650) (by decide +kernel)⟩
theorem lw_p9 : lw_okq (⟨"java/util/ArrayList", "fastRemove", "([Ljava/lang/Object;I)V"⟩, 3) := ⟨⟨by decide +kernel, by decide +kernel⟩, List.mem_of_getElem? (i := 40) (by decide +kernel), List.mem_of_getElem? (i := 672) (by decide +kernel), List.mem_of_getElem? (i := 673) (by decide +kernel)⟩
theorem lw_p10 : lw_okq (⟨"Covenanter", "isTest", "(I)Z"⟩, 5) := ⟨⟨by decide +kernel, by decide +kernel⟩, List.mem_of_getElem? (i := 30) (by decide +kernel), List.mem_of_getElem? (i := 890) (by decide +kernel), List.mem_of_getElem? (i := 891) (by decide +kernel)⟩
theorem lw_p11 : lw_okq (⟨"Covenanter", "isBasket", "(I)Z"⟩, 5) := ⟨⟨by decide +kernel, by decide +kernel⟩, List.mem_of_getElem? (i := 30) (by decide +kernel), List.mem_of_getElem? (i := 980) (by decide +kernel), List.mem_of_getElem? (i := 981) (by decide +kernel)⟩
theorem lw_p12 : lw_okq (⟨"CovenanterModel", "pushes", "(III)I"⟩, 30) := ⟨⟨by decide +kernel, by decide +kernel⟩, List.mem_of_getElem? (i := 1005) (by decide +kernel), List.mem_of_getElem? (i := 1126) (by decide +kernel), List.mem_of_getElem? (i := 1127) (by decide +kernel)⟩
theorem lw_p13 : lw_okq (⟨"CovenanterModel", "adds", "(III)V"⟩, 30) := ⟨⟨by decide +kernel, by decide +kernel⟩, List.mem_of_getElem? (i := 1005) (by decide +kernel), List.mem_of_getElem? (i := 1130) (by decide +kernel), List.mem_of_getElem? (i := 1131) (by decide +kernel)⟩
theorem lw_p14 : lw_okq (⟨"CovenanterModel", "isTerm", "(I)Z"⟩, 30) := ⟨⟨by decide +kernel, by decide +kernel⟩, List.mem_of_getElem? (i := 1005) (by decide +kernel), List.mem_of_getElem? (i := 1142) (by decide +kernel), List.mem_of_getElem? (i := 1143) (by decide +kernel)⟩
theorem lw_p15 : lw_okq (⟨"CovenanterModel", "canGrow", "()Z"⟩, 30) := ⟨⟨by decide +kernel, by decide +kernel⟩, List.mem_of_getElem? (i := 1005) (by decide +kernel), List.mem_of_getElem? (i := 1154) (by decide +kernel), List.mem_of_getElem? (i := 1155) (by decide +kernel)⟩
def lw_privs_1 : List (MethodName × Nat) := [(⟨"Covenanter", "stateIn", "(LCovenanter$Ratio;I)I"⟩, 5), (⟨"Covenanter", "isBelowWake", "(LCovenanter$Ratio;I)Z"⟩, 5), (⟨"java/lang/Throwable", "fillInStackTrace", "(I)Ljava/lang/Throwable;"⟩, 6), (⟨"Covenanter", "settleTerms", "()V"⟩, 5), (⟨"Covenanter", "push", "(LCovenanter$Formula;)I"⟩, 5), (⟨"java/util/ArrayList", "add", "(Ljava/lang/Object;[Ljava/lang/Object;I)V"⟩, 3), (⟨"java/util/ArrayList", "grow", "()[Ljava/lang/Object;"⟩, 3), (⟨"java/util/ArrayList", "grow", "(I)[Ljava/lang/Object;"⟩, 3), (⟨"Covenanter", "isTerm", "(I)Z"⟩, 5), (⟨"java/util/ArrayList", "fastRemove", "([Ljava/lang/Object;I)V"⟩, 3), (⟨"Covenanter", "isTest", "(I)Z"⟩, 5), (⟨"Covenanter", "isBasket", "(I)Z"⟩, 5), (⟨"CovenanterModel", "pushes", "(III)I"⟩, 30), (⟨"CovenanterModel", "adds", "(III)V"⟩, 30), (⟨"CovenanterModel", "isTerm", "(I)Z"⟩, 30), (⟨"CovenanterModel", "canGrow", "()Z"⟩, 30)]
theorem lw_r1 : ∀ q ∈ lw_privs_1, lw_okq q := List.forall_mem_cons.mpr ⟨lw_p0, List.forall_mem_cons.mpr ⟨lw_p1, List.forall_mem_cons.mpr ⟨lw_p2, List.forall_mem_cons.mpr ⟨lw_p3, List.forall_mem_cons.mpr ⟨lw_p4, List.forall_mem_cons.mpr ⟨lw_p5, List.forall_mem_cons.mpr ⟨lw_p6, List.forall_mem_cons.mpr ⟨lw_p7, List.forall_mem_cons.mpr ⟨lw_p8, List.forall_mem_cons.mpr ⟨lw_p9, List.forall_mem_cons.mpr ⟨lw_p10, List.forall_mem_cons.mpr ⟨lw_p11, List.forall_mem_cons.mpr ⟨lw_p12, List.forall_mem_cons.mpr ⟨lw_p13, List.forall_mem_cons.mpr ⟨lw_p14, List.forall_mem_cons.mpr ⟨lw_p15, fun _ h => absurd h List.not_mem_nil⟩⟩⟩⟩⟩⟩⟩⟩⟩⟩⟩⟩⟩⟩⟩⟩
theorem lw_p16 : lw_okq (⟨"CovenanterModel", "grows", "(II)I"⟩, 30) := ⟨⟨by decide +kernel, by decide +kernel⟩, List.mem_of_getElem? (i := 1005) (by decide +kernel), List.mem_of_getElem? (i := 1158) (by decide +kernel), List.mem_of_getElem? (i := 1159) (by decide +kernel)⟩
theorem lw_p17 : lw_okq (⟨"CovenanterModel", "defines", "(II)V"⟩, 30) := ⟨⟨by decide +kernel, by decide +kernel⟩, List.mem_of_getElem? (i := 1005) (by decide +kernel), List.mem_of_getElem? (i := 1174) (by decide +kernel), List.mem_of_getElem? (i := 1175) (by decide +kernel)⟩
theorem lw_p18 : lw_okq (⟨"CovenanterModel", "greatestNamed", "()I"⟩, 30) := ⟨⟨by decide +kernel, by decide +kernel⟩, List.mem_of_getElem? (i := 1005) (by decide +kernel), List.mem_of_getElem? (i := 1182) (by decide +kernel), List.mem_of_getElem? (i := 1183) (by decide +kernel)⟩
theorem lw_p19 : lw_okq (⟨"CovenanterModel", "tells", "()V"⟩, 30) := ⟨⟨by decide +kernel, by decide +kernel⟩, List.mem_of_getElem? (i := 1005) (by decide +kernel), List.mem_of_getElem? (i := 1198) (by decide +kernel), List.mem_of_getElem? (i := 1199) (by decide +kernel)⟩
theorem lw_p20 : lw_okq (⟨"CovenanterModel", "works", "(I)V"⟩, 30) := ⟨⟨by decide +kernel, by decide +kernel⟩, List.mem_of_getElem? (i := 1005) (by decide +kernel), List.mem_of_getElem? (i := 1202) (by decide +kernel), List.mem_of_getElem? (i := 1203) (by decide +kernel)⟩
theorem lw_p21 : lw_okq (⟨"CovenanterModel", "leaf", "(III)J"⟩, 30) := ⟨⟨by decide +kernel, by decide +kernel⟩, List.mem_of_getElem? (i := 1005) (by decide +kernel), List.mem_of_getElem? (i := 1206) (by decide +kernel), List.mem_of_getElem? (i := 1207) (by decide +kernel)⟩
theorem lw_p22 : lw_okq (⟨"CovenanterModel", "holding", "(II)I"⟩, 30) := ⟨⟨by decide +kernel, by decide +kernel⟩, List.mem_of_getElem? (i := 1005) (by decide +kernel), List.mem_of_getElem? (i := 1220) (by decide +kernel), List.mem_of_getElem? (i := 1221) (by decide +kernel)⟩
theorem lw_p23 : lw_okq (⟨"CovenanterModel", "writes", "(I)V"⟩, 30) := ⟨⟨by decide +kernel, by decide +kernel⟩, List.mem_of_getElem? (i := 1005) (by decide +kernel), List.mem_of_getElem? (i := 1224) (by decide +kernel), List.mem_of_getElem? (i := 1225) (by decide +kernel)⟩
theorem lw_p24 : lw_okq (⟨"CovenanterModel", "inserts", "(IC)V"⟩, 30) := ⟨⟨by decide +kernel, by decide +kernel⟩, List.mem_of_getElem? (i := 1005) (by decide +kernel), List.mem_of_getElem? (i := 1228) (by decide +kernel), List.mem_of_getElem? (i := 1229) (by decide +kernel)⟩
theorem lw_p25 : lw_okq (⟨"CovenanterModel", "insertsNumber", "(II)I"⟩, 30) := ⟨⟨by decide +kernel, by decide +kernel⟩, List.mem_of_getElem? (i := 1005) (by decide +kernel), List.mem_of_getElem? (i := 1232) (by decide +kernel), List.mem_of_getElem? (i := 1233) (by decide +kernel)⟩
theorem lw_p26 : lw_okq (⟨"CovenanterModel", "joinsText", "(III)V"⟩, 30) := ⟨⟨by decide +kernel, by decide +kernel⟩, List.mem_of_getElem? (i := 1005) (by decide +kernel), List.mem_of_getElem? (i := 1236) (by decide +kernel), List.mem_of_getElem? (i := 1237) (by decide +kernel)⟩
theorem lw_p27 : lw_okq (⟨"CovenanterModel", "insertsWord", "(ICCCCC)I"⟩, 30) := ⟨⟨by decide +kernel, by decide +kernel⟩, List.mem_of_getElem? (i := 1005) (by decide +kernel), List.mem_of_getElem? (i := 1240) (by decide +kernel), List.mem_of_getElem? (i := 1241) (by decide +kernel)⟩
theorem lw_p28 : lw_okq (⟨"CovenanterModel", "isTest", "(I)Z"⟩, 30) := ⟨⟨by decide +kernel, by decide +kernel⟩, List.mem_of_getElem? (i := 1005) (by decide +kernel), List.mem_of_getElem? (i := 1256) (by decide +kernel), List.mem_of_getElem? (i := 1257) (by decide +kernel)⟩
theorem lw_p29 : lw_okq (⟨"CovenanterModel", "curesAround", "(II)I"⟩, 30) := ⟨⟨by decide +kernel, by decide +kernel⟩, List.mem_of_getElem? (i := 1005) (by decide +kernel), List.mem_of_getElem? (i := 1268) (by decide +kernel), List.mem_of_getElem? (i := 1269) (by decide +kernel)⟩
theorem lw_p30 : lw_okq (⟨"CovenanterModel", "stateOf", "(II)I"⟩, 30) := ⟨⟨by decide +kernel, by decide +kernel⟩, List.mem_of_getElem? (i := 1005) (by decide +kernel), List.mem_of_getElem? (i := 1280) (by decide +kernel), List.mem_of_getElem? (i := 1281) (by decide +kernel)⟩
theorem lw_p31 : lw_okq (⟨"CovenanterModel", "limitOf", "(II)I"⟩, 30) := ⟨⟨by decide +kernel, by decide +kernel⟩, List.mem_of_getElem? (i := 1005) (by decide +kernel), List.mem_of_getElem? (i := 1284) (by decide +kernel), List.mem_of_getElem? (i := 1285) (by decide +kernel)⟩
def lw_privs_2 : List (MethodName × Nat) := [(⟨"CovenanterModel", "grows", "(II)I"⟩, 30), (⟨"CovenanterModel", "defines", "(II)V"⟩, 30), (⟨"CovenanterModel", "greatestNamed", "()I"⟩, 30), (⟨"CovenanterModel", "tells", "()V"⟩, 30), (⟨"CovenanterModel", "works", "(I)V"⟩, 30), (⟨"CovenanterModel", "leaf", "(III)J"⟩, 30), (⟨"CovenanterModel", "holding", "(II)I"⟩, 30), (⟨"CovenanterModel", "writes", "(I)V"⟩, 30), (⟨"CovenanterModel", "inserts", "(IC)V"⟩, 30), (⟨"CovenanterModel", "insertsNumber", "(II)I"⟩, 30), (⟨"CovenanterModel", "joinsText", "(III)V"⟩, 30), (⟨"CovenanterModel", "insertsWord", "(ICCCCC)I"⟩, 30), (⟨"CovenanterModel", "isTest", "(I)Z"⟩, 30), (⟨"CovenanterModel", "curesAround", "(II)I"⟩, 30), (⟨"CovenanterModel", "stateOf", "(II)I"⟩, 30), (⟨"CovenanterModel", "limitOf", "(II)I"⟩, 30)]
theorem lw_r2 : ∀ q ∈ lw_privs_2, lw_okq q := List.forall_mem_cons.mpr ⟨lw_p16, List.forall_mem_cons.mpr ⟨lw_p17, List.forall_mem_cons.mpr ⟨lw_p18, List.forall_mem_cons.mpr ⟨lw_p19, List.forall_mem_cons.mpr ⟨lw_p20, List.forall_mem_cons.mpr ⟨lw_p21, List.forall_mem_cons.mpr ⟨lw_p22, List.forall_mem_cons.mpr ⟨lw_p23, List.forall_mem_cons.mpr ⟨lw_p24, List.forall_mem_cons.mpr ⟨lw_p25, List.forall_mem_cons.mpr ⟨lw_p26, List.forall_mem_cons.mpr ⟨lw_p27, List.forall_mem_cons.mpr ⟨lw_p28, List.forall_mem_cons.mpr ⟨lw_p29, List.forall_mem_cons.mpr ⟨lw_p30, List.forall_mem_cons.mpr ⟨lw_p31, fun _ h => absurd h List.not_mem_nil⟩⟩⟩⟩⟩⟩⟩⟩⟩⟩⟩⟩⟩⟩⟩⟩
theorem lw_p32 : lw_okq (⟨"CovenanterModel", "isKept", "(IIJ)Z"⟩, 30) := ⟨⟨by decide +kernel, by decide +kernel⟩, List.mem_of_getElem? (i := 1005) (by decide +kernel), List.mem_of_getElem? (i := 1288) (by decide +kernel), List.mem_of_getElem? (i := 1289) (by decide +kernel)⟩
theorem lw_p33 : lw_okq (⟨"CovenanterModel", "isBasket", "(I)Z"⟩, 30) := ⟨⟨by decide +kernel, by decide +kernel⟩, List.mem_of_getElem? (i := 1005) (by decide +kernel), List.mem_of_getElem? (i := 1309) (by decide +kernel), List.mem_of_getElem? (i := 1310) (by decide +kernel)⟩
theorem lw_p34 : lw_okq (⟨"CovenanterModel", "sizeOf", "(II)J"⟩, 30) := ⟨⟨by decide +kernel, by decide +kernel⟩, List.mem_of_getElem? (i := 1005) (by decide +kernel), List.mem_of_getElem? (i := 1313) (by decide +kernel), List.mem_of_getElem? (i := 1314) (by decide +kernel)⟩
def lw_privs_3 : List (MethodName × Nat) := [(⟨"CovenanterModel", "isKept", "(IIJ)Z"⟩, 30), (⟨"CovenanterModel", "isBasket", "(I)Z"⟩, 30), (⟨"CovenanterModel", "sizeOf", "(II)J"⟩, 30)]
theorem lw_r3 : ∀ q ∈ lw_privs_3, lw_okq q := List.forall_mem_cons.mpr ⟨lw_p32, List.forall_mem_cons.mpr ⟨lw_p33, List.forall_mem_cons.mpr ⟨lw_p34, fun _ h => absurd h List.not_mem_nil⟩⟩⟩
def lw_privs : List (MethodName × Nat) := lw_privs_1 ++ (lw_privs_2 ++ (lw_privs_3))
def lw_tbl : List Cond := k2_sels lw_privs ++ tables_1
theorem lw_privs_ok : ∀ q ∈ lw_privs, lw_okq q := by
  show ∀ q ∈ lw_privs_1 ++ (lw_privs_2 ++ (lw_privs_3)), lw_okq q
  exact List.forall_mem_append.mpr ⟨lw_r1, List.forall_mem_append.mpr ⟨lw_r2, lw_r3⟩⟩
-- ===== end of PART A; then your names; then what follows =====
def RX0 : String := "Covenanter$Basket"
def TX0 : u_T := fun k => match k with
  | 0 => ("Covenanter$Basket", "fixed", "I", true)
  | 1 => ("Covenanter$Basket", "term", "LCovenanter$Term;", true)
  | 2 => ("Covenanter$Basket", "percents", "I", true)
  | _ => ("Covenanter$Basket", "used", "J", false)
def tyX0 : Nat → FieldType := fun k => match k with
  | 0 => .int
  | 1 => .object "Covenanter$Term"
  | 2 => .int
  | _ => .long
theorem nmX0 : ∀ a, a < 4 → ∀ b, b < 4 → a ≠ b → (TX0 a).2.1 ≠ (TX0 b).2.1 := by decide +kernel
theorem tyX0_ok : ∀ k, k < 4 → parseFieldDescriptor (TX0 k).2.2.1 = some (tyX0 k) := by decide +kernel
abbrev cX0_init : ByteArray := prog_2_method_1_code
def yX0_init : MethodName := ⟨RX0, "<init>", "(ILCovenanter$Term;I)V"⟩
def RX1 : String := "Covenanter$Formula"
def TX1 : u_T := fun k => match k with
  | 0 => ("Covenanter$Formula", "kind", "I", true)
  | 1 => ("Covenanter$Formula", "percents", "I", true)
  | 2 => ("Covenanter$Formula", "first", "LCovenanter$Formula;", true)
  | 3 => ("Covenanter$Formula", "second", "LCovenanter$Formula;", true)
  | 4 => ("Covenanter$Formula", "level", "I", true)
  | 5 => ("Covenanter$Formula", "greatestTerm", "I", true)
  | 6 => ("Covenanter$Formula", "text", "Ljava/lang/String;", true)
  | _ => ("Covenanter$Formula", "values", "[J", true)
def tyX1 : Nat → FieldType := fun k => match k with
  | 0 => .int
  | 1 => .int
  | 2 => .object "Covenanter$Formula"
  | 3 => .object "Covenanter$Formula"
  | 4 => .int
  | 5 => .int
  | 6 => .object "java/lang/String"
  | _ => .array .long
theorem nmX1 : ∀ a, a < 8 → ∀ b, b < 8 → a ≠ b → (TX1 a).2.1 ≠ (TX1 b).2.1 := by decide +kernel
theorem tyX1_ok : ∀ k, k < 8 → parseFieldDescriptor (TX1 k).2.2.1 = some (tyX1 k) := by decide +kernel
abbrev cX1_init : ByteArray := prog_3_method_1_code
def yX1_init : MethodName := ⟨RX1, "<init>", "(IILjava/lang/String;[J)V"⟩
abbrev cX1_init_ : ByteArray := prog_3_method_2_code
def yX1_init_ : MethodName := ⟨RX1, "<init>", "(IILCovenanter$Formula;LCovenanter$Formula;Ljava/lang/String;)V"⟩
abbrev cX1_levelOf : ByteArray := prog_3_method_3_code
def yX1_levelOf : MethodName := ⟨RX1, "levelOf", "(LCovenanter$Formula;)I"⟩
abbrev cX1_greatestTermOf : ByteArray := prog_3_method_4_code
def yX1_greatestTermOf : MethodName := ⟨RX1, "greatestTermOf", "(LCovenanter$Formula;)I"⟩
def RX2 : String := "Covenanter$Ratio"
def TX2 : u_T := fun k => match k with
  | 0 => ("Covenanter$Ratio", "top", "LCovenanter$Term;", true)
  | 1 => ("Covenanter$Ratio", "bottom", "LCovenanter$Term;", true)
  | 2 => ("Covenanter$Ratio", "limits", "[I", true)
  | 3 => ("Covenanter$Ratio", "limitCount", "I", false)
  | 4 => ("Covenanter$Ratio", "wakeAccount", "I", false)
  | 5 => ("Covenanter$Ratio", "wakeLeast", "I", false)
  | 6 => ("Covenanter$Ratio", "cures", "[I", true)
  | 7 => ("Covenanter$Ratio", "cureCount", "I", false)
  | _ => ("Covenanter$Ratio", "waived", "[Z", true)
def tyX2 : Nat → FieldType := fun k => match k with
  | 0 => .object "Covenanter$Term"
  | 1 => .object "Covenanter$Term"
  | 2 => .array .int
  | 3 => .int
  | 4 => .int
  | 5 => .int
  | 6 => .array .int
  | 7 => .int
  | _ => .array .boolean
theorem nmX2 : ∀ a, a < 9 → ∀ b, b < 9 → a ≠ b → (TX2 a).2.1 ≠ (TX2 b).2.1 := by decide +kernel
theorem tyX2_ok : ∀ k, k < 9 → parseFieldDescriptor (TX2 k).2.2.1 = some (tyX2 k) := by decide +kernel
abbrev cX2_init : ByteArray := prog_4_method_1_code
def yX2_init : MethodName := ⟨RX2, "<init>", "(LCovenanter$Term;LCovenanter$Term;)V"⟩
def RX3 : String := "Covenanter$Term"
def TX3 : u_T := fun k => match k with
  | 0 => ("Covenanter$Term", "level", "I", true)
  | 1 => ("Covenanter$Term", "definitions", "[LCovenanter$Formula;", true)
  | 2 => ("Covenanter$Term", "definitionCount", "I", false)
  | _ => ("Covenanter$Term", "values", "[J", true)
def tyX3 : Nat → FieldType := fun k => match k with
  | 0 => .int
  | 1 => .array (.object "Covenanter$Formula")
  | 2 => .int
  | _ => .array .long
theorem nmX3 : ∀ a, a < 4 → ∀ b, b < 4 → a ≠ b → (TX3 a).2.1 ≠ (TX3 b).2.1 := by decide +kernel
theorem tyX3_ok : ∀ k, k < 4 → parseFieldDescriptor (TX3 k).2.2.1 = some (tyX3 k) := by decide +kernel
abbrev cX3_init : ByteArray := prog_5_method_1_code
def yX3_init : MethodName := ⟨RX3, "<init>", "(LCovenanter$Formula;)V"⟩
def RX4 : String := "Covenanter"
def TX4 : u_T := fun k => match k with
  | 0 => ("Covenanter", "amounts", "[[J", true)
  | 1 => ("Covenanter", "stack", "Ljava/util/ArrayList;", true)
  | 2 => ("Covenanter", "terms", "Ljava/util/ArrayList;", true)
  | 3 => ("Covenanter", "ratios", "Ljava/util/ArrayList;", true)
  | _ => ("Covenanter", "baskets", "Ljava/util/ArrayList;", true)
def tyX4 : Nat → FieldType := fun k => match k with
  | 0 => .array (.array .long)
  | 1 => .object "java/util/ArrayList"
  | 2 => .object "java/util/ArrayList"
  | 3 => .object "java/util/ArrayList"
  | _ => .object "java/util/ArrayList"
theorem nmX4 : ∀ a, a < 5 → ∀ b, b < 5 → a ≠ b → (TX4 a).2.1 ≠ (TX4 b).2.1 := by decide +kernel
theorem tyX4_ok : ∀ k, k < 5 → parseFieldDescriptor (TX4 k).2.2.1 = some (tyX4 k) := by decide +kernel
abbrev cX4_init : ByteArray := prog_1_method_1_code
def yX4_init : MethodName := ⟨RX4, "<init>", "()V"⟩
abbrev cX4_amount : ByteArray := prog_1_method_2_code
def yX4_amount : MethodName := ⟨RX4, "amount", "(III)I"⟩
abbrev cX4_account : ByteArray := prog_1_method_3_code
def yX4_account : MethodName := ⟨RX4, "account", "(I)I"⟩
abbrev cX4_number : ByteArray := prog_1_method_4_code
def yX4_number : MethodName := ⟨RX4, "number", "(I)I"⟩
abbrev cX4_term : ByteArray := prog_1_method_5_code
def yX4_term : MethodName := ⟨RX4, "term", "(I)I"⟩
abbrev cX4_join : ByteArray := prog_1_method_6_code
def yX4_join : MethodName := ⟨RX4, "join", "(I)I"⟩
abbrev cX4_share : ByteArray := prog_1_method_7_code
def yX4_share : MethodName := ⟨RX4, "share", "(I)I"⟩
abbrev cX4_year : ByteArray := prog_1_method_8_code
def yX4_year : MethodName := ⟨RX4, "year", "()I"⟩
abbrev cX4_clear : ByteArray := prog_1_method_9_code
def yX4_clear : MethodName := ⟨RX4, "clear", "()I"⟩
abbrev cX4_push : ByteArray := prog_1_method_10_code
def yX4_push : MethodName := ⟨RX4, "push", "(LCovenanter$Formula;)I"⟩
abbrev cX4_canGrow : ByteArray := prog_1_method_11_code
def yX4_canGrow : MethodName := ⟨RX4, "canGrow", "(LCovenanter$Formula;)Z"⟩
abbrev cX4_numbered : ByteArray := prog_1_method_12_code
def yX4_numbered : MethodName := ⟨RX4, "numbered", "(Ljava/lang/String;I)Ljava/lang/String;"⟩
abbrev cX4_joinText : ByteArray := prog_1_method_13_code
def yX4_joinText : MethodName := ⟨RX4, "joinText", "(ILjava/lang/String;Ljava/lang/String;)Ljava/lang/String;"⟩
abbrev cX4_shareText : ByteArray := prog_1_method_14_code
def yX4_shareText : MethodName := ⟨RX4, "shareText", "(ILjava/lang/String;)Ljava/lang/String;"⟩
abbrev cX4_yearText : ByteArray := prog_1_method_15_code
def yX4_yearText : MethodName := ⟨RX4, "yearText", "(Ljava/lang/String;)Ljava/lang/String;"⟩
abbrev cX4_define : ByteArray := prog_1_method_16_code
def yX4_define : MethodName := ⟨RX4, "define", "()I"⟩
abbrev cX4_amend : ByteArray := prog_1_method_17_code
def yX4_amend : MethodName := ⟨RX4, "amend", "(II)I"⟩
abbrev cX4_terms : ByteArray := prog_1_method_18_code
def yX4_terms : MethodName := ⟨RX4, "terms", "()I"⟩
abbrev cX4_level : ByteArray := prog_1_method_19_code
def yX4_level : MethodName := ⟨RX4, "level", "(I)I"⟩
abbrev cX4_value : ByteArray := prog_1_method_20_code
def yX4_value : MethodName := ⟨RX4, "value", "(II)J"⟩
abbrev cX4_textLength : ByteArray := prog_1_method_21_code
def yX4_textLength : MethodName := ⟨RX4, "textLength", "(II)I"⟩
abbrev cX4_textChar : ByteArray := prog_1_method_22_code
def yX4_textChar : MethodName := ⟨RX4, "textChar", "(III)C"⟩
abbrev cX4_canAmend : ByteArray := prog_1_method_23_code
def yX4_canAmend : MethodName := ⟨RX4, "canAmend", "(LCovenanter$Term;ILCovenanter$Formula;)Z"⟩
abbrev cX4_textIn : ByteArray := prog_1_method_24_code
def yX4_textIn : MethodName := ⟨RX4, "textIn", "(LCovenanter$Term;I)Ljava/lang/String;"⟩
abbrev cX4_settleTerms : ByteArray := prog_1_method_25_code
def yX4_settleTerms : MethodName := ⟨RX4, "settleTerms", "()V"⟩
abbrev cX4_settleTerm : ByteArray := prog_1_method_26_code
def yX4_settleTerm : MethodName := ⟨RX4, "settleTerm", "(LCovenanter$Term;)V"⟩
abbrev cX4_settleFormula : ByteArray := prog_1_method_27_code
def yX4_settleFormula : MethodName := ⟨RX4, "settleFormula", "(LCovenanter$Formula;I)V"⟩
abbrev cX4_valueMade : ByteArray := prog_1_method_28_code
def yX4_valueMade : MethodName := ⟨RX4, "valueMade", "(LCovenanter$Formula;I)J"⟩
abbrev cX4_joinOf : ByteArray := prog_1_method_29_code
def yX4_joinOf : MethodName := ⟨RX4, "joinOf", "(IJJ)J"⟩
abbrev cX4_shareOf : ByteArray := prog_1_method_30_code
def yX4_shareOf : MethodName := ⟨RX4, "shareOf", "(JI)J"⟩
abbrev cX4_yearOf : ByteArray := prog_1_method_31_code
def yX4_yearOf : MethodName := ⟨RX4, "yearOf", "([JI)J"⟩
abbrev cX4_test : ByteArray := prog_1_method_32_code
def yX4_test : MethodName := ⟨RX4, "test", "(II)I"⟩
abbrev cX4_limit : ByteArray := prog_1_method_33_code
def yX4_limit : MethodName := ⟨RX4, "limit", "(III)I"⟩
abbrev cX4_wake : ByteArray := prog_1_method_34_code
def yX4_wake : MethodName := ⟨RX4, "wake", "(III)I"⟩
abbrev cX4_cure : ByteArray := prog_1_method_35_code
def yX4_cure : MethodName := ⟨RX4, "cure", "(III)I"⟩
abbrev cX4_waive : ByteArray := prog_1_method_36_code
def yX4_waive : MethodName := ⟨RX4, "waive", "(II)Z"⟩
abbrev cX4_state : ByteArray := prog_1_method_37_code
def yX4_state : MethodName := ⟨RX4, "state", "(II)I"⟩
abbrev cX4_room : ByteArray := prog_1_method_38_code
def yX4_room : MethodName := ⟨RX4, "room", "(II)J"⟩
abbrev cX4_broken : ByteArray := prog_1_method_39_code
def yX4_broken : MethodName := ⟨RX4, "broken", "()I"⟩
abbrev cX4_stateIn : ByteArray := prog_1_method_40_code
def yX4_stateIn : MethodName := ⟨RX4, "stateIn", "(LCovenanter$Ratio;I)I"⟩
abbrev cX4_isBelowWake : ByteArray := prog_1_method_41_code
def yX4_isBelowWake : MethodName := ⟨RX4, "isBelowWake", "(LCovenanter$Ratio;I)Z"⟩
abbrev cX4_isKept : ByteArray := prog_1_method_42_code
def yX4_isKept : MethodName := ⟨RX4, "isKept", "(JJI)Z"⟩
abbrev cX4_limitIn : ByteArray := prog_1_method_43_code
def yX4_limitIn : MethodName := ⟨RX4, "limitIn", "(LCovenanter$Ratio;I)I"⟩
abbrev cX4_hasCureLeft : ByteArray := prog_1_method_44_code
def yX4_hasCureLeft : MethodName := ⟨RX4, "hasCureLeft", "([II)Z"⟩
abbrev cX4_curesFrom : ByteArray := prog_1_method_45_code
def yX4_curesFrom : MethodName := ⟨RX4, "curesFrom", "([II)I"⟩
abbrev cX4_basket : ByteArray := prog_1_method_46_code
def yX4_basket : MethodName := ⟨RX4, "basket", "(III)I"⟩
abbrev cX4_size : ByteArray := prog_1_method_47_code
def yX4_size : MethodName := ⟨RX4, "size", "(II)J"⟩
abbrev cX4_use : ByteArray := prog_1_method_48_code
def yX4_use : MethodName := ⟨RX4, "use", "(III)J"⟩
abbrev cX4_refill : ByteArray := prog_1_method_49_code
def yX4_refill : MethodName := ⟨RX4, "refill", "(II)J"⟩
abbrev cX4_sizeIn : ByteArray := prog_1_method_50_code
def yX4_sizeIn : MethodName := ⟨RX4, "sizeIn", "(LCovenanter$Basket;I)J"⟩
abbrev cX4_isWithin : ByteArray := prog_1_method_51_code
def yX4_isWithin : MethodName := ⟨RX4, "isWithin", "(III)Z"⟩
abbrev cX4_isAccount : ByteArray := prog_1_method_52_code
def yX4_isAccount : MethodName := ⟨RX4, "isAccount", "(I)Z"⟩
abbrev cX4_isQuarter : ByteArray := prog_1_method_53_code
def yX4_isQuarter : MethodName := ⟨RX4, "isQuarter", "(I)Z"⟩
abbrev cX4_isTerm : ByteArray := prog_1_method_54_code
def yX4_isTerm : MethodName := ⟨RX4, "isTerm", "(I)Z"⟩
abbrev cX4_isTest : ByteArray := prog_1_method_55_code
def yX4_isTest : MethodName := ⟨RX4, "isTest", "(I)Z"⟩
abbrev cX4_isBasket : ByteArray := prog_1_method_56_code
def yX4_isBasket : MethodName := ⟨RX4, "isBasket", "(I)Z"⟩
def RX5 : String := "CovenanterModel"
def TX5 : u_T := fun k => match k with
  | 0 => ("CovenanterModel", "thrown", "I", false)
  | 1 => ("CovenanterModel", "amounts", "[I", true)
  | 2 => ("CovenanterModel", "stack", "I", false)
  | 3 => ("CovenanterModel", "many", "[I", true)
  | 4 => ("CovenanterModel", "levels", "[I", true)
  | 5 => ("CovenanterModel", "kinds", "[I", true)
  | 6 => ("CovenanterModel", "numbers", "[I", true)
  | 7 => ("CovenanterModel", "terms", "I", false)
  | 8 => ("CovenanterModel", "termLevel", "[I", true)
  | 9 => ("CovenanterModel", "defined", "[I", true)
  | 10 => ("CovenanterModel", "defKinds", "[I", true)
  | 11 => ("CovenanterModel", "defNumbers", "[I", true)
  | 12 => ("CovenanterModel", "values", "[J", true)
  | 13 => ("CovenanterModel", "work", "[J", true)
  | 14 => ("CovenanterModel", "text", "[C", true)
  | 15 => ("CovenanterModel", "length", "I", false)
  | 16 => ("CovenanterModel", "starts", "[I", true)
  | 17 => ("CovenanterModel", "tests", "I", false)
  | 18 => ("CovenanterModel", "top", "[I", true)
  | 19 => ("CovenanterModel", "bottom", "[I", true)
  | 20 => ("CovenanterModel", "limits", "[I", true)
  | 21 => ("CovenanterModel", "wakeBy", "[I", true)
  | 22 => ("CovenanterModel", "least", "[I", true)
  | 23 => ("CovenanterModel", "cures", "[I", true)
  | 24 => ("CovenanterModel", "isWaived", "[Z", true)
  | 25 => ("CovenanterModel", "baskets", "I", false)
  | 26 => ("CovenanterModel", "fixed", "[I", true)
  | 27 => ("CovenanterModel", "basketTerm", "[I", true)
  | 28 => ("CovenanterModel", "percents", "[I", true)
  | _ => ("CovenanterModel", "used", "[J", true)
def tyX5 : Nat → FieldType := fun k => match k with
  | 0 => .int
  | 1 => .array .int
  | 2 => .int
  | 3 => .array .int
  | 4 => .array .int
  | 5 => .array .int
  | 6 => .array .int
  | 7 => .int
  | 8 => .array .int
  | 9 => .array .int
  | 10 => .array .int
  | 11 => .array .int
  | 12 => .array .long
  | 13 => .array .long
  | 14 => .array .char
  | 15 => .int
  | 16 => .array .int
  | 17 => .int
  | 18 => .array .int
  | 19 => .array .int
  | 20 => .array .int
  | 21 => .array .int
  | 22 => .array .int
  | 23 => .array .int
  | 24 => .array .boolean
  | 25 => .int
  | 26 => .array .int
  | 27 => .array .int
  | 28 => .array .int
  | _ => .array .long
theorem nmX5 : ∀ a, a < 30 → ∀ b, b < 30 → a ≠ b → (TX5 a).2.1 ≠ (TX5 b).2.1 := by decide +kernel
theorem tyX5_ok : ∀ k, k < 30 → parseFieldDescriptor (TX5 k).2.2.1 = some (tyX5 k) := by decide +kernel
abbrev cX5_init : ByteArray := prog_7_method_1_code
def yX5_init : MethodName := ⟨RX5, "<init>", "()V"⟩
abbrev cX5_thrown : ByteArray := prog_7_method_2_code
def yX5_thrown : MethodName := ⟨RX5, "thrown", "()I"⟩
abbrev cX5_isIn : ByteArray := prog_7_method_3_code
def yX5_isIn : MethodName := ⟨RX5, "isIn", "(III)Z"⟩
abbrev cX5_isQuarter : ByteArray := prog_7_method_4_code
def yX5_isQuarter : MethodName := ⟨RX5, "isQuarter", "(I)Z"⟩
abbrev cX5_isAccount : ByteArray := prog_7_method_5_code
def yX5_isAccount : MethodName := ⟨RX5, "isAccount", "(I)Z"⟩
abbrev cX5_isTerm : ByteArray := prog_7_method_6_code
def yX5_isTerm : MethodName := ⟨RX5, "isTerm", "(I)Z"⟩
abbrev cX5_down : ByteArray := prog_7_method_7_code
def yX5_down : MethodName := ⟨RX5, "down", "(JI)J"⟩
abbrev cX5_amount : ByteArray := prog_7_method_8_code
def yX5_amount : MethodName := ⟨RX5, "amount", "(III)I"⟩
abbrev cX5_adds : ByteArray := prog_7_method_9_code
def yX5_adds : MethodName := ⟨RX5, "adds", "(III)V"⟩
abbrev cX5_pushes : ByteArray := prog_7_method_10_code
def yX5_pushes : MethodName := ⟨RX5, "pushes", "(III)I"⟩
abbrev cX5_account : ByteArray := prog_7_method_11_code
def yX5_account : MethodName := ⟨RX5, "account", "(I)I"⟩
abbrev cX5_number : ByteArray := prog_7_method_12_code
def yX5_number : MethodName := ⟨RX5, "number", "(I)I"⟩
abbrev cX5_term : ByteArray := prog_7_method_13_code
def yX5_term : MethodName := ⟨RX5, "term", "(I)I"⟩
abbrev cX5_join : ByteArray := prog_7_method_14_code
def yX5_join : MethodName := ⟨RX5, "join", "(I)I"⟩
abbrev cX5_grows : ByteArray := prog_7_method_15_code
def yX5_grows : MethodName := ⟨RX5, "grows", "(II)I"⟩
abbrev cX5_canGrow : ByteArray := prog_7_method_16_code
def yX5_canGrow : MethodName := ⟨RX5, "canGrow", "()Z"⟩
abbrev cX5_share : ByteArray := prog_7_method_17_code
def yX5_share : MethodName := ⟨RX5, "share", "(I)I"⟩
abbrev cX5_year : ByteArray := prog_7_method_18_code
def yX5_year : MethodName := ⟨RX5, "year", "()I"⟩
abbrev cX5_clear : ByteArray := prog_7_method_19_code
def yX5_clear : MethodName := ⟨RX5, "clear", "()I"⟩
abbrev cX5_defines : ByteArray := prog_7_method_20_code
def yX5_defines : MethodName := ⟨RX5, "defines", "(II)V"⟩
abbrev cX5_define : ByteArray := prog_7_method_21_code
def yX5_define : MethodName := ⟨RX5, "define", "()I"⟩
abbrev cX5_greatestNamed : ByteArray := prog_7_method_22_code
def yX5_greatestNamed : MethodName := ⟨RX5, "greatestNamed", "()I"⟩
abbrev cX5_amend : ByteArray := prog_7_method_23_code
def yX5_amend : MethodName := ⟨RX5, "amend", "(II)I"⟩
abbrev cX5_terms : ByteArray := prog_7_method_24_code
def yX5_terms : MethodName := ⟨RX5, "terms", "()I"⟩
abbrev cX5_level : ByteArray := prog_7_method_25_code
def yX5_level : MethodName := ⟨RX5, "level", "(I)I"⟩
abbrev cX5_holding : ByteArray := prog_7_method_26_code
def yX5_holding : MethodName := ⟨RX5, "holding", "(II)I"⟩
abbrev cX5_leaf : ByteArray := prog_7_method_27_code
def yX5_leaf : MethodName := ⟨RX5, "leaf", "(III)J"⟩
abbrev cX5_joined : ByteArray := prog_7_method_28_code
def yX5_joined : MethodName := ⟨RX5, "joined", "(IJJ)J"⟩
abbrev cX5_works : ByteArray := prog_7_method_29_code
def yX5_works : MethodName := ⟨RX5, "works", "(I)V"⟩
abbrev cX5_tells : ByteArray := prog_7_method_30_code
def yX5_tells : MethodName := ⟨RX5, "tells", "()V"⟩
abbrev cX5_value : ByteArray := prog_7_method_31_code
def yX5_value : MethodName := ⟨RX5, "value", "(II)J"⟩
abbrev cX5_inserts : ByteArray := prog_7_method_32_code
def yX5_inserts : MethodName := ⟨RX5, "inserts", "(IC)V"⟩
abbrev cX5_insertsNumber : ByteArray := prog_7_method_33_code
def yX5_insertsNumber : MethodName := ⟨RX5, "insertsNumber", "(II)I"⟩
abbrev cX5_insertsWord : ByteArray := prog_7_method_34_code
def yX5_insertsWord : MethodName := ⟨RX5, "insertsWord", "(ICCCCC)I"⟩
abbrev cX5_joinsText : ByteArray := prog_7_method_35_code
def yX5_joinsText : MethodName := ⟨RX5, "joinsText", "(III)V"⟩
abbrev cX5_writes : ByteArray := prog_7_method_36_code
def yX5_writes : MethodName := ⟨RX5, "writes", "(I)V"⟩
abbrev cX5_textLength : ByteArray := prog_7_method_37_code
def yX5_textLength : MethodName := ⟨RX5, "textLength", "(II)I"⟩
abbrev cX5_textChar : ByteArray := prog_7_method_38_code
def yX5_textChar : MethodName := ⟨RX5, "textChar", "(III)C"⟩
abbrev cX5_isTest : ByteArray := prog_7_method_39_code
def yX5_isTest : MethodName := ⟨RX5, "isTest", "(I)Z"⟩
abbrev cX5_test : ByteArray := prog_7_method_40_code
def yX5_test : MethodName := ⟨RX5, "test", "(II)I"⟩
abbrev cX5_limit : ByteArray := prog_7_method_41_code
def yX5_limit : MethodName := ⟨RX5, "limit", "(III)I"⟩
abbrev cX5_limitOf : ByteArray := prog_7_method_42_code
def yX5_limitOf : MethodName := ⟨RX5, "limitOf", "(II)I"⟩
abbrev cX5_wake : ByteArray := prog_7_method_43_code
def yX5_wake : MethodName := ⟨RX5, "wake", "(III)I"⟩
abbrev cX5_curesAround : ByteArray := prog_7_method_44_code
def yX5_curesAround : MethodName := ⟨RX5, "curesAround", "(II)I"⟩
abbrev cX5_cure : ByteArray := prog_7_method_45_code
def yX5_cure : MethodName := ⟨RX5, "cure", "(III)I"⟩
abbrev cX5_waive : ByteArray := prog_7_method_46_code
def yX5_waive : MethodName := ⟨RX5, "waive", "(II)Z"⟩
abbrev cX5_isKept : ByteArray := prog_7_method_47_code
def yX5_isKept : MethodName := ⟨RX5, "isKept", "(IIJ)Z"⟩
abbrev cX5_stateOf : ByteArray := prog_7_method_48_code
def yX5_stateOf : MethodName := ⟨RX5, "stateOf", "(II)I"⟩
abbrev cX5_state : ByteArray := prog_7_method_49_code
def yX5_state : MethodName := ⟨RX5, "state", "(II)I"⟩
abbrev cX5_room : ByteArray := prog_7_method_50_code
def yX5_room : MethodName := ⟨RX5, "room", "(II)J"⟩
abbrev cX5_broken : ByteArray := prog_7_method_51_code
def yX5_broken : MethodName := ⟨RX5, "broken", "()I"⟩
abbrev cX5_isBasket : ByteArray := prog_7_method_52_code
def yX5_isBasket : MethodName := ⟨RX5, "isBasket", "(I)Z"⟩
abbrev cX5_basket : ByteArray := prog_7_method_53_code
def yX5_basket : MethodName := ⟨RX5, "basket", "(III)I"⟩
abbrev cX5_sizeOf : ByteArray := prog_7_method_54_code
def yX5_sizeOf : MethodName := ⟨RX5, "sizeOf", "(II)J"⟩
abbrev cX5_size : ByteArray := prog_7_method_55_code
def yX5_size : MethodName := ⟨RX5, "size", "(II)J"⟩
abbrev cX5_use : ByteArray := prog_7_method_56_code
def yX5_use : MethodName := ⟨RX5, "use", "(III)J"⟩
abbrev cX5_refill : ByteArray := prog_7_method_57_code
def yX5_refill : MethodName := ⟨RX5, "refill", "(II)J"⟩
def RJx145de : String := "java/io/Serializable"
def TJx145de : u_T := fun k => match k with
  | _ => ("", "", "", false)
def tyJx145de : Nat → FieldType := fun k => match k with
  | _ => .int
theorem nmJx145de : ∀ a, a < 0 → ∀ b, b < 0 → a ≠ b → (TJx145de a).2.1 ≠ (TJx145de b).2.1 := by decide +kernel
theorem tyJx145de_ok : ∀ k, k < 0 → parseFieldDescriptor (TJx145de k).2.2.1 = some (tyJx145de k) := by decide +kernel
def RJ5 : String := "java/lang/AbstractStringBuilder"
def TJ5 : u_T := fun k => match k with
  | _ => ("", "", "", false)
def tyJ5 : Nat → FieldType := fun k => match k with
  | _ => .int
theorem nmJ5 : ∀ a, a < 0 → ∀ b, b < 0 → a ≠ b → (TJ5 a).2.1 ≠ (TJ5 b).2.1 := by decide +kernel
theorem tyJ5_ok : ∀ k, k < 0 → parseFieldDescriptor (TJ5 k).2.2.1 = some (tyJ5 k) := by decide +kernel
abbrev cJ5_init_d00df : ByteArray := prog_9_method_2_code
def yJ5_init_d00df : MethodName := ⟨RJ5, "<init>", "(I)V"⟩
abbrev cJ5_length_8abf5 : ByteArray := prog_9_method_6_code
def yJ5_length_8abf5 : MethodName := ⟨RJ5, "length", "()I"⟩
abbrev cJ5_ensureCapacityInternal_d00df : ByteArray := prog_9_method_9_code
def yJ5_ensureCapacityInternal_d00df : MethodName := ⟨RJ5, "ensureCapacityInternal", "(I)V"⟩
abbrev cJ5_newCapacity_0f7a4 : ByteArray := prog_9_method_10_code
def yJ5_newCapacity_0f7a4 : MethodName := ⟨RJ5, "newCapacity", "(I)I"⟩
abbrev cJ5_inflate_da8c8 : ByteArray := prog_9_method_11_code
def yJ5_inflate_da8c8 : MethodName := ⟨RJ5, "inflate", "()V"⟩
abbrev cJ5_append_cf1ce : ByteArray := prog_9_method_22_code
def yJ5_append_cf1ce : MethodName := ⟨RJ5, "append", "(Ljava/lang/String;)Ljava/lang/AbstractStringBuilder;"⟩
abbrev cJ5_appendNull_278bc : ByteArray := prog_9_method_26_code
def yJ5_appendNull_278bc : MethodName := ⟨RJ5, "appendNull", "()Ljava/lang/AbstractStringBuilder;"⟩
abbrev cJ5_append_3fe6f : ByteArray := prog_9_method_31_code
def yJ5_append_3fe6f : MethodName := ⟨RJ5, "append", "(C)Ljava/lang/AbstractStringBuilder;"⟩
abbrev cJ5_append_c97b9 : ByteArray := prog_9_method_32_code
def yJ5_append_c97b9 : MethodName := ⟨RJ5, "append", "(I)Ljava/lang/AbstractStringBuilder;"⟩
abbrev cJ5_getValue_6d5f1 : ByteArray := prog_9_method_64_code
def yJ5_getValue_6d5f1 : MethodName := ⟨RJ5, "getValue", "()[B"⟩
abbrev cJ5_isLatin1_aae02 : ByteArray := prog_9_method_68_code
def yJ5_isLatin1_aae02 : MethodName := ⟨RJ5, "isLatin1", "()Z"⟩
abbrev cJ5_inflateIfNeededFor_a7421 : ByteArray := prog_9_method_71_code
def yJ5_inflateIfNeededFor_a7421 : MethodName := ⟨RJ5, "inflateIfNeededFor", "(Ljava/lang/String;)V"⟩
abbrev cJ5_putStringAt_47b60 : ByteArray := prog_9_method_73_code
def yJ5_putStringAt_47b60 : MethodName := ⟨RJ5, "putStringAt", "(ILjava/lang/String;)V"⟩
def RJx2cfe8 : String := "java/lang/Appendable"
def TJx2cfe8 : u_T := fun k => match k with
  | _ => ("", "", "", false)
def tyJx2cfe8 : Nat → FieldType := fun k => match k with
  | _ => .int
theorem nmJx2cfe8 : ∀ a, a < 0 → ∀ b, b < 0 → a ≠ b → (TJx2cfe8 a).2.1 ≠ (TJx2cfe8 b).2.1 := by decide +kernel
theorem tyJx2cfe8_ok : ∀ k, k < 0 → parseFieldDescriptor (TJx2cfe8 k).2.2.1 = some (tyJx2cfe8 k) := by decide +kernel
def RJx9f9b0 : String := "java/lang/CharSequence"
def TJx9f9b0 : u_T := fun k => match k with
  | _ => ("", "", "", false)
def tyJx9f9b0 : Nat → FieldType := fun k => match k with
  | _ => .int
theorem nmJx9f9b0 : ∀ a, a < 0 → ∀ b, b < 0 → a ≠ b → (TJx9f9b0 a).2.1 ≠ (TJx9f9b0 b).2.1 := by decide +kernel
theorem tyJx9f9b0_ok : ∀ k, k < 0 → parseFieldDescriptor (TJx9f9b0 k).2.2.1 = some (tyJx9f9b0 k) := by decide +kernel
def RJx8e188 : String := "java/lang/Cloneable"
def TJx8e188 : u_T := fun k => match k with
  | _ => ("", "", "", false)
def tyJx8e188 : Nat → FieldType := fun k => match k with
  | _ => .int
theorem nmJx8e188 : ∀ a, a < 0 → ∀ b, b < 0 → a ≠ b → (TJx8e188 a).2.1 ≠ (TJx8e188 b).2.1 := by decide +kernel
theorem tyJx8e188_ok : ∀ k, k < 0 → parseFieldDescriptor (TJx8e188 k).2.2.1 = some (tyJx8e188 k) := by decide +kernel
def RJxb160c : String := "java/lang/Comparable"
def TJxb160c : u_T := fun k => match k with
  | _ => ("", "", "", false)
def tyJxb160c : Nat → FieldType := fun k => match k with
  | _ => .int
theorem nmJxb160c : ∀ a, a < 0 → ∀ b, b < 0 → a ≠ b → (TJxb160c a).2.1 ≠ (TJxb160c b).2.1 := by decide +kernel
theorem tyJxb160c_ok : ∀ k, k < 0 → parseFieldDescriptor (TJxb160c k).2.2.1 = some (tyJxb160c k) := by decide +kernel
def RJ6 : String := "java/lang/Integer"
def TJ6 : u_T := fun k => match k with
  | _ => ("", "", "", false)
def tyJ6 : Nat → FieldType := fun k => match k with
  | _ => .int
theorem nmJ6 : ∀ a, a < 0 → ∀ b, b < 0 → a ≠ b → (TJ6 a).2.1 ≠ (TJ6 b).2.1 := by decide +kernel
theorem tyJ6_ok : ∀ k, k < 0 → parseFieldDescriptor (TJ6 k).2.2.1 = some (tyJ6 k) := by decide +kernel
abbrev cJ6_getChars_ba4f3 : ByteArray := prog_18_method_12_code
def yJ6_getChars_ba4f3 : MethodName := ⟨RJ6, "getChars", "(II[B)I"⟩
abbrev cJ6_stringSize_0f7a4 : ByteArray := prog_18_method_13_code
def yJ6_stringSize_0f7a4 : MethodName := ⟨RJ6, "stringSize", "(I)I"⟩
def RJxab1ab : String := "java/lang/Iterable"
def TJxab1ab : u_T := fun k => match k with
  | _ => ("", "", "", false)
def tyJxab1ab : Nat → FieldType := fun k => match k with
  | _ => .int
theorem nmJxab1ab : ∀ a, a < 0 → ∀ b, b < 0 → a ≠ b → (TJxab1ab a).2.1 ≠ (TJxab1ab b).2.1 := by decide +kernel
theorem tyJxab1ab_ok : ∀ k, k < 0 → parseFieldDescriptor (TJxab1ab k).2.2.1 = some (tyJxab1ab k) := by decide +kernel
def RJ9 : String := "java/lang/Math"
def TJ9 : u_T := fun k => match k with
  | _ => ("", "", "", false)
def tyJ9 : Nat → FieldType := fun k => match k with
  | _ => .int
theorem nmJ9 : ∀ a, a < 0 → ∀ b, b < 0 → a ≠ b → (TJ9 a).2.1 ≠ (TJ9 b).2.1 := by decide +kernel
theorem tyJ9_ok : ∀ k, k < 0 → parseFieldDescriptor (TJ9 k).2.2.1 = some (tyJ9 k) := by decide +kernel
abbrev cJ9_floorDiv_f86c9 : ByteArray := prog_20_method_49_code
def yJ9_floorDiv_f86c9 : MethodName := ⟨RJ9, "floorDiv", "(JJ)J"⟩
abbrev cJ9_max_7cf53 : ByteArray := prog_20_method_65_code
def yJ9_max_7cf53 : MethodName := ⟨RJ9, "max", "(II)I"⟩
abbrev cJ9_max_f86c9 : ByteArray := prog_20_method_66_code
def yJ9_max_f86c9 : MethodName := ⟨RJ9, "max", "(JJ)J"⟩
abbrev cJ9_min_7cf53 : ByteArray := prog_20_method_69_code
def yJ9_min_7cf53 : MethodName := ⟨RJ9, "min", "(II)I"⟩
abbrev cJ9_min_f86c9 : ByteArray := prog_20_method_70_code
def yJ9_min_f86c9 : MethodName := ⟨RJ9, "min", "(JJ)J"⟩
def RJxd2413 : String := "java/lang/Number"
def TJxd2413 : u_T := fun k => match k with
  | _ => ("", "", "", false)
def tyJxd2413 : Nat → FieldType := fun k => match k with
  | _ => .int
theorem nmJxd2413 : ∀ a, a < 0 → ∀ b, b < 0 → a ≠ b → (TJxd2413 a).2.1 ≠ (TJxd2413 b).2.1 := by decide +kernel
theorem tyJxd2413_ok : ∀ k, k < 0 → parseFieldDescriptor (TJxd2413 k).2.2.1 = some (tyJxd2413 k) := by decide +kernel
def RJ0 : String := "java/lang/String"
def TJ0 : u_T := fun k => match k with
  | 0 => ("java/lang/String", "value", "[B", true)
  | 1 => ("java/lang/String", "coder", "B", true)
  | 2 => ("java/lang/String", "hash", "I", false)
  | _ => ("java/lang/String", "hashIsZero", "Z", false)
def tyJ0 : Nat → FieldType := fun k => match k with
  | 0 => .array .byte
  | 1 => .byte
  | 2 => .int
  | _ => .boolean
theorem nmJ0 : ∀ a, a < 4 → ∀ b, b < 4 → a ≠ b → (TJ0 a).2.1 ≠ (TJ0 b).2.1 := by decide +kernel
theorem tyJ0_ok : ∀ k, k < 4 → parseFieldDescriptor (TJ0 k).2.2.1 = some (tyJ0 k) := by decide +kernel
abbrev cJ0_init_81219 : ByteArray := prog_23_method_53_code
def yJ0_init_81219 : MethodName := ⟨RJ0, "<init>", "(Ljava/lang/StringBuilder;)V"⟩
abbrev cJ0_length_8abf5 : ByteArray := prog_23_method_54_code
def yJ0_length_8abf5 : MethodName := ⟨RJ0, "length", "()I"⟩
abbrev cJ0_charAt_5068e : ByteArray := prog_23_method_56_code
def yJ0_charAt_5068e : MethodName := ⟨RJ0, "charAt", "(I)C"⟩
abbrev cJ0_getBytes_840e7 : ByteArray := prog_23_method_147_code
def yJ0_getBytes_840e7 : MethodName := ⟨RJ0, "getBytes", "([BIB)V"⟩
abbrev cJ0_init_db425 : ByteArray := prog_23_method_150_code
def yJ0_init_db425 : MethodName := ⟨RJ0, "<init>", "(Ljava/lang/AbstractStringBuilder;Ljava/lang/Void;)V"⟩
abbrev cJ0_coder_7d493 : ByteArray := prog_23_method_152_code
def yJ0_coder_7d493 : MethodName := ⟨RJ0, "coder", "()B"⟩
abbrev cJ0_isLatin1_aae02 : ByteArray := prog_23_method_154_code
def yJ0_isLatin1_aae02 : MethodName := ⟨RJ0, "isLatin1", "()Z"⟩
abbrev cJ0_checkIndex_df160 : ByteArray := prog_23_method_155_code
def yJ0_checkIndex_df160 : MethodName := ⟨RJ0, "checkIndex", "(II)V"⟩
abbrev cJ0_checkBoundsOffCount_cabcc : ByteArray := prog_23_method_157_code
def yJ0_checkBoundsOffCount_cabcc : MethodName := ⟨RJ0, "checkBoundsOffCount", "(III)I"⟩
abbrev cJ0_checkBoundsBeginEnd_23922 : ByteArray := prog_23_method_158_code
def yJ0_checkBoundsBeginEnd_23922 : MethodName := ⟨RJ0, "checkBoundsBeginEnd", "(III)V"⟩
def RJ4 : String := "java/lang/StringBuilder"
def TJ4 : u_T := fun k => match k with
  | 0 => ("java/lang/AbstractStringBuilder", "value", "[B", false)
  | 1 => ("java/lang/AbstractStringBuilder", "coder", "B", false)
  | 2 => ("java/lang/AbstractStringBuilder", "maybeLatin1", "Z", false)
  | _ => ("java/lang/AbstractStringBuilder", "count", "I", false)
def tyJ4 : Nat → FieldType := fun k => match k with
  | 0 => .array .byte
  | 1 => .byte
  | 2 => .boolean
  | _ => .int
theorem nmJ4 : ∀ a, a < 4 → ∀ b, b < 4 → a ≠ b → (TJ4 a).2.1 ≠ (TJ4 b).2.1 := by decide +kernel
theorem tyJ4_ok : ∀ k, k < 4 → parseFieldDescriptor (TJ4 k).2.2.1 = some (tyJ4 k) := by decide +kernel
abbrev cJ4_init_da8c8 : ByteArray := prog_24_method_1_code
def yJ4_init_da8c8 : MethodName := ⟨RJ4, "<init>", "()V"⟩
abbrev cJ4_append_15ec4 : ByteArray := prog_24_method_7_code
def yJ4_append_15ec4 : MethodName := ⟨RJ4, "append", "(Ljava/lang/String;)Ljava/lang/StringBuilder;"⟩
abbrev cJ4_append_cf468 : ByteArray := prog_24_method_14_code
def yJ4_append_cf468 : MethodName := ⟨RJ4, "append", "(C)Ljava/lang/StringBuilder;"⟩
abbrev cJ4_append_bf812 : ByteArray := prog_24_method_15_code
def yJ4_append_bf812 : MethodName := ⟨RJ4, "append", "(I)Ljava/lang/StringBuilder;"⟩
abbrev cJ4_toString_0e30d : ByteArray := prog_24_method_42_code
def yJ4_toString_0e30d : MethodName := ⟨RJ4, "toString", "()Ljava/lang/String;"⟩
abbrev cJ4_length_8abf5 : ByteArray := prog_24_method_93_code
def yJ4_length_8abf5 : MethodName := ⟨RJ4, "length", "()I"⟩
def RJ1 : String := "java/lang/StringLatin1"
def TJ1 : u_T := fun k => match k with
  | _ => ("", "", "", false)
def tyJ1 : Nat → FieldType := fun k => match k with
  | _ => .int
theorem nmJ1 : ∀ a, a < 0 → ∀ b, b < 0 → a ≠ b → (TJ1 a).2.1 ≠ (TJ1 b).2.1 := by decide +kernel
theorem tyJ1_ok : ∀ k, k < 0 → parseFieldDescriptor (TJ1 k).2.2.1 = some (tyJ1 k) := by decide +kernel
abbrev cJ1_charAt_3b067 : ByteArray := prog_25_method_2_code
def yJ1_charAt_3b067 : MethodName := ⟨RJ1, "charAt", "([BI)C"⟩
abbrev cJ1_canEncode_fc78d : ByteArray := prog_25_method_3_code
def yJ1_canEncode_fc78d : MethodName := ⟨RJ1, "canEncode", "(C)Z"⟩
abbrev cJ1_inflate_0e8fd : ByteArray := prog_25_method_50_code
def yJ1_inflate_0e8fd : MethodName := ⟨RJ1, "inflate", "([BI[BII)V"⟩
def RJ2 : String := "java/lang/StringUTF16"
def TJ2 : u_T := fun k => match k with
  | _ => ("", "", "", false)
def tyJ2 : Nat → FieldType := fun k => match k with
  | _ => .int
theorem nmJ2 : ∀ a, a < 0 → ∀ b, b < 0 → a ≠ b → (TJ2 a).2.1 ≠ (TJ2 b).2.1 := by decide +kernel
theorem tyJ2_ok : ∀ k, k < 0 → parseFieldDescriptor (TJ2 k).2.2.1 = some (tyJ2 k) := by decide +kernel
abbrev cJ2_newBytesFor_77867 : ByteArray := prog_26_method_2_code
def yJ2_newBytesFor_77867 : MethodName := ⟨RJ2, "newBytesFor", "(I)[B"⟩
abbrev cJ2_newBytesLength_0f7a4 : ByteArray := prog_26_method_3_code
def yJ2_newBytesLength_0f7a4 : MethodName := ⟨RJ2, "newBytesLength", "(I)I"⟩
abbrev cJ2_putChar_b72d1 : ByteArray := prog_26_method_4_code
def yJ2_putChar_b72d1 : MethodName := ⟨RJ2, "putChar", "([BII)V"⟩
abbrev cJ2_getChar_3b067 : ByteArray := prog_26_method_5_code
def yJ2_getChar_3b067 : MethodName := ⟨RJ2, "getChar", "([BI)C"⟩
abbrev cJ2_length_9d52b : ByteArray := prog_26_method_6_code
def yJ2_length_9d52b : MethodName := ⟨RJ2, "length", "([B)I"⟩
abbrev cJ2_coderFromArrayLen_85cad : ByteArray := prog_26_method_15_code
def yJ2_coderFromArrayLen_85cad : MethodName := ⟨RJ2, "coderFromArrayLen", "([BI)B"⟩
abbrev cJ2_compress_39247 : ByteArray := prog_26_method_17_code
def yJ2_compress_39247 : MethodName := ⟨RJ2, "compress", "([BII)[B"⟩
abbrev cJ2_compress_5af95 : ByteArray := prog_26_method_22_code
def yJ2_compress_5af95 : MethodName := ⟨RJ2, "compress", "([BI[BII)I"⟩
abbrev cJ2_putCharSB_b72d1 : ByteArray := prog_26_method_71_code
def yJ2_putCharSB_b72d1 : MethodName := ⟨RJ2, "putCharSB", "([BII)V"⟩
abbrev cJ2_getChars_46870 : ByteArray := prog_26_method_77_code
def yJ2_getChars_46870 : MethodName := ⟨RJ2, "getChars", "(III[B)I"⟩
abbrev cJ2_putCharsAt_cd4e5 : ByteArray := prog_26_method_81_code
def yJ2_putCharsAt_cd4e5 : MethodName := ⟨RJ2, "putCharsAt", "([BICCCC)I"⟩
abbrev cJ2_charAt_3b067 : ByteArray := prog_26_method_83_code
def yJ2_charAt_3b067 : MethodName := ⟨RJ2, "charAt", "([BI)C"⟩
abbrev cJ2_inflate_0e8fd : ByteArray := prog_26_method_86_code
def yJ2_inflate_0e8fd : MethodName := ⟨RJ2, "inflate", "([BI[BII)V"⟩
abbrev cJ2_getChars_ba4f3 : ByteArray := prog_26_method_89_code
def yJ2_getChars_ba4f3 : MethodName := ⟨RJ2, "getChars", "(II[B)I"⟩
abbrev cJ2_checkIndex_2214a : ByteArray := prog_26_method_91_code
def yJ2_checkIndex_2214a : MethodName := ⟨RJ2, "checkIndex", "(I[B)V"⟩
abbrev cJ2_checkBoundsBeginEnd_d044e : ByteArray := prog_26_method_93_code
def yJ2_checkBoundsBeginEnd_d044e : MethodName := ⟨RJ2, "checkBoundsBeginEnd", "(II[B)V"⟩
abbrev cJ2_checkBoundsOffCount_d044e : ByteArray := prog_26_method_94_code
def yJ2_checkBoundsOffCount_d044e : MethodName := ⟨RJ2, "checkBoundsOffCount", "(II[B)V"⟩
def RJ10 : String := "java/lang/System"
def TJ10 : u_T := fun k => match k with
  | _ => ("", "", "", false)
def tyJ10 : Nat → FieldType := fun k => match k with
  | _ => .int
theorem nmJ10 : ∀ a, a < 0 → ∀ b, b < 0 → a ≠ b → (TJ10 a).2.1 ≠ (TJ10 b).2.1 := by decide +kernel
theorem tyJ10_ok : ∀ k, k < 0 → parseFieldDescriptor (TJ10 k).2.2.1 = some (tyJ10 k) := by decide +kernel
def RJxfd54e : String := "java/lang/constant/Constable"
def TJxfd54e : u_T := fun k => match k with
  | _ => ("", "", "", false)
def tyJxfd54e : Nat → FieldType := fun k => match k with
  | _ => .int
theorem nmJxfd54e : ∀ a, a < 0 → ∀ b, b < 0 → a ≠ b → (TJxfd54e a).2.1 ≠ (TJxfd54e b).2.1 := by decide +kernel
theorem tyJxfd54e_ok : ∀ k, k < 0 → parseFieldDescriptor (TJxfd54e k).2.2.1 = some (tyJxfd54e k) := by decide +kernel
def RJx3cf43 : String := "java/lang/constant/ConstantDesc"
def TJx3cf43 : u_T := fun k => match k with
  | _ => ("", "", "", false)
def tyJx3cf43 : Nat → FieldType := fun k => match k with
  | _ => .int
theorem nmJx3cf43 : ∀ a, a < 0 → ∀ b, b < 0 → a ≠ b → (TJx3cf43 a).2.1 ≠ (TJx3cf43 b).2.1 := by decide +kernel
theorem tyJx3cf43_ok : ∀ k, k < 0 → parseFieldDescriptor (TJx3cf43 k).2.2.1 = some (tyJx3cf43 k) := by decide +kernel
def RJxa1e45 : String := "java/util/AbstractCollection"
def TJxa1e45 : u_T := fun k => match k with
  | _ => ("", "", "", false)
def tyJxa1e45 : Nat → FieldType := fun k => match k with
  | _ => .int
theorem nmJxa1e45 : ∀ a, a < 0 → ∀ b, b < 0 → a ≠ b → (TJxa1e45 a).2.1 ≠ (TJxa1e45 b).2.1 := by decide +kernel
theorem tyJxa1e45_ok : ∀ k, k < 0 → parseFieldDescriptor (TJxa1e45 k).2.2.1 = some (tyJxa1e45 k) := by decide +kernel
abbrev cJxa1e45_init_da8c8 : ByteArray := prog_31_method_1_code
def yJxa1e45_init_da8c8 : MethodName := ⟨RJxa1e45, "<init>", "()V"⟩
def RJxc12de : String := "java/util/AbstractList"
def TJxc12de : u_T := fun k => match k with
  | _ => ("", "", "", false)
def tyJxc12de : Nat → FieldType := fun k => match k with
  | _ => .int
theorem nmJxc12de : ∀ a, a < 0 → ∀ b, b < 0 → a ≠ b → (TJxc12de a).2.1 ≠ (TJxc12de b).2.1 := by decide +kernel
theorem tyJxc12de_ok : ∀ k, k < 0 → parseFieldDescriptor (TJxc12de k).2.2.1 = some (tyJxc12de k) := by decide +kernel
abbrev cJxc12de_init_da8c8 : ByteArray := prog_32_method_1_code
def yJxc12de_init_da8c8 : MethodName := ⟨RJxc12de, "<init>", "()V"⟩
def RJx4a65c : String := "java/util/ArrayList"
def TJx4a65c : u_T := fun k => match k with
  | 0 => ("java/util/AbstractList", "modCount", "I", false)
  | 1 => ("java/util/ArrayList", "elementData", "[Ljava/lang/Object;", false)
  | _ => ("java/util/ArrayList", "size", "I", false)
def tyJx4a65c : Nat → FieldType := fun k => match k with
  | 0 => .int
  | 1 => .array (.object "java/lang/Object")
  | _ => .int
theorem nmJx4a65c : ∀ a, a < 3 → ∀ b, b < 3 → a ≠ b → (TJx4a65c a).2.1 ≠ (TJx4a65c b).2.1 := by decide +kernel
theorem tyJx4a65c_ok : ∀ k, k < 3 → parseFieldDescriptor (TJx4a65c k).2.2.1 = some (tyJx4a65c k) := by decide +kernel
abbrev cJx4a65c_init_da8c8 : ByteArray := prog_33_method_2_code
def yJx4a65c_init_da8c8 : MethodName := ⟨RJx4a65c, "<init>", "()V"⟩
abbrev cJx4a65c_grow_92f84 : ByteArray := prog_33_method_6_code
def yJx4a65c_grow_92f84 : MethodName := ⟨RJx4a65c, "grow", "(I)[Ljava/lang/Object;"⟩
abbrev cJx4a65c_grow_d5877 : ByteArray := prog_33_method_7_code
def yJx4a65c_grow_d5877 : MethodName := ⟨RJx4a65c, "grow", "()[Ljava/lang/Object;"⟩
abbrev cJx4a65c_size_8abf5 : ByteArray := prog_33_method_8_code
def yJx4a65c_size_8abf5 : MethodName := ⟨RJx4a65c, "size", "()I"⟩
abbrev cJx4a65c_elementData_915e3 : ByteArray := prog_33_method_18_code
def yJx4a65c_elementData_915e3 : MethodName := ⟨RJx4a65c, "elementData", "(I)Ljava/lang/Object;"⟩
abbrev cJx4a65c_get_915e3 : ByteArray := prog_33_method_20_code
def yJx4a65c_get_915e3 : MethodName := ⟨RJx4a65c, "get", "(I)Ljava/lang/Object;"⟩
abbrev cJx4a65c_add_72be8 : ByteArray := prog_33_method_24_code
def yJx4a65c_add_72be8 : MethodName := ⟨RJx4a65c, "add", "(Ljava/lang/Object;[Ljava/lang/Object;I)V"⟩
abbrev cJx4a65c_add_9ea2d : ByteArray := prog_33_method_25_code
def yJx4a65c_add_9ea2d : MethodName := ⟨RJx4a65c, "add", "(Ljava/lang/Object;)Z"⟩
abbrev cJx4a65c_remove_915e3 : ByteArray := prog_33_method_29_code
def yJx4a65c_remove_915e3 : MethodName := ⟨RJx4a65c, "remove", "(I)Ljava/lang/Object;"⟩
abbrev cJx4a65c_fastRemove_b59b0 : ByteArray := prog_33_method_39_code
def yJx4a65c_fastRemove_b59b0 : MethodName := ⟨RJx4a65c, "fastRemove", "([Ljava/lang/Object;I)V"⟩
abbrev cJx4a65c_clear_da8c8 : ByteArray := prog_33_method_40_code
def yJx4a65c_clear_da8c8 : MethodName := ⟨RJx4a65c, "clear", "()V"⟩
def RJ7 : String := "java/util/Arrays"
def TJ7 : u_T := fun k => match k with
  | _ => ("", "", "", false)
def tyJ7 : Nat → FieldType := fun k => match k with
  | _ => .int
theorem nmJ7 : ∀ a, a < 0 → ∀ b, b < 0 → a ≠ b → (TJ7 a).2.1 ≠ (TJ7 b).2.1 := by decide +kernel
theorem tyJ7_ok : ∀ k, k < 0 → parseFieldDescriptor (TJ7 k).2.2.1 = some (tyJ7 k) := by decide +kernel
abbrev cJ7_fill_d0a16 : ByteArray := prog_34_method_101_code
def yJ7_fill_d0a16 : MethodName := ⟨RJ7, "fill", "([JJ)V"⟩
abbrev cJ7_fill_53178 : ByteArray := prog_34_method_103_code
def yJ7_fill_53178 : MethodName := ⟨RJ7, "fill", "([II)V"⟩
abbrev cJ7_copyOf_1904c : ByteArray := prog_34_method_119_code
def yJ7_copyOf_1904c : MethodName := ⟨RJ7, "copyOf", "([Ljava/lang/Object;I)[Ljava/lang/Object;"⟩
abbrev cJ7_copyOf_6403c : ByteArray := prog_34_method_120_code
def yJ7_copyOf_6403c : MethodName := ⟨RJ7, "copyOf", "([Ljava/lang/Object;ILjava/lang/Class;)[Ljava/lang/Object;"⟩
abbrev cJ7_copyOf_9075b : ByteArray := prog_34_method_121_code
def yJ7_copyOf_9075b : MethodName := ⟨RJ7, "copyOf", "([BI)[B"⟩
abbrev cJ7_checkLength_df160 : ByteArray := prog_34_method_131_code
def yJ7_checkLength_df160 : MethodName := ⟨RJ7, "checkLength", "(II)V"⟩
abbrev cJ7_copyOfRange_39247 : ByteArray := prog_34_method_132_code
def yJ7_copyOfRange_39247 : MethodName := ⟨RJ7, "copyOfRange", "([BII)[B"⟩
abbrev cJ7_copyOfRangeByte_39247 : ByteArray := prog_34_method_133_code
def yJ7_copyOfRangeByte_39247 : MethodName := ⟨RJ7, "copyOfRangeByte", "([BII)[B"⟩
def RJx5ef63 : String := "java/util/Collection"
def TJx5ef63 : u_T := fun k => match k with
  | _ => ("", "", "", false)
def tyJx5ef63 : Nat → FieldType := fun k => match k with
  | _ => .int
theorem nmJx5ef63 : ∀ a, a < 0 → ∀ b, b < 0 → a ≠ b → (TJx5ef63 a).2.1 ≠ (TJx5ef63 b).2.1 := by decide +kernel
theorem tyJx5ef63_ok : ∀ k, k < 0 → parseFieldDescriptor (TJx5ef63 k).2.2.1 = some (tyJx5ef63 k) := by decide +kernel
def RJxbd725 : String := "java/util/List"
def TJxbd725 : u_T := fun k => match k with
  | _ => ("", "", "", false)
def tyJxbd725 : Nat → FieldType := fun k => match k with
  | _ => .int
theorem nmJxbd725 : ∀ a, a < 0 → ∀ b, b < 0 → a ≠ b → (TJxbd725 a).2.1 ≠ (TJxbd725 b).2.1 := by decide +kernel
theorem tyJxbd725_ok : ∀ k, k < 0 → parseFieldDescriptor (TJxbd725 k).2.2.1 = some (tyJxbd725 k) := by decide +kernel
def RJ15 : String := "java/util/Objects"
def TJ15 : u_T := fun k => match k with
  | _ => ("", "", "", false)
def tyJ15 : Nat → FieldType := fun k => match k with
  | _ => .int
theorem nmJ15 : ∀ a, a < 0 → ∀ b, b < 0 → a ≠ b → (TJ15 a).2.1 ≠ (TJ15 b).2.1 := by decide +kernel
theorem tyJ15_ok : ∀ k, k < 0 → parseFieldDescriptor (TJ15 k).2.2.1 = some (tyJ15 k) := by decide +kernel
abbrev cJ15_checkIndex_7cf53 : ByteArray := prog_37_method_17_code
def yJ15_checkIndex_7cf53 : MethodName := ⟨RJ15, "checkIndex", "(II)I"⟩
def RJxf0a74 : String := "java/util/RandomAccess"
def TJxf0a74 : u_T := fun k => match k with
  | _ => ("", "", "", false)
def tyJxf0a74 : Nat → FieldType := fun k => match k with
  | _ => .int
theorem nmJxf0a74 : ∀ a, a < 0 → ∀ b, b < 0 → a ≠ b → (TJxf0a74 a).2.1 ≠ (TJxf0a74 b).2.1 := by decide +kernel
theorem tyJxf0a74_ok : ∀ k, k < 0 → parseFieldDescriptor (TJxf0a74 k).2.2.1 = some (tyJxf0a74 k) := by decide +kernel
def RJxa66e6 : String := "java/util/SequencedCollection"
def TJxa66e6 : u_T := fun k => match k with
  | _ => ("", "", "", false)
def tyJxa66e6 : Nat → FieldType := fun k => match k with
  | _ => .int
theorem nmJxa66e6 : ∀ a, a < 0 → ∀ b, b < 0 → a ≠ b → (TJxa66e6 a).2.1 ≠ (TJxa66e6 b).2.1 := by decide +kernel
theorem tyJxa66e6_ok : ∀ k, k < 0 → parseFieldDescriptor (TJxa66e6 k).2.2.1 = some (tyJxa66e6 k) := by decide +kernel
def RJ8 : String := "jdk/internal/util/ArraysSupport"
def TJ8 : u_T := fun k => match k with
  | _ => ("", "", "", false)
def tyJ8 : Nat → FieldType := fun k => match k with
  | _ => .int
theorem nmJ8 : ∀ a, a < 0 → ∀ b, b < 0 → a ≠ b → (TJ8 a).2.1 ≠ (TJ8 b).2.1 := by decide +kernel
theorem tyJ8_ok : ∀ k, k < 0 → parseFieldDescriptor (TJ8 k).2.2.1 = some (tyJ8 k) := by decide +kernel
abbrev cJ8_newLength_cabcc : ByteArray := prog_40_method_27_code
def yJ8_newLength_cabcc : MethodName := ⟨RJ8, "newLength", "(III)I"⟩
abbrev cJ8_hugeLength_7cf53 : ByteArray := prog_40_method_28_code
def yJ8_hugeLength_7cf53 : MethodName := ⟨RJ8, "hugeLength", "(II)I"⟩
def RJ3 : String := "jdk/internal/util/Preconditions"
def TJ3 : u_T := fun k => match k with
  | _ => ("", "", "", false)
def tyJ3 : Nat → FieldType := fun k => match k with
  | _ => .int
theorem nmJ3 : ∀ a, a < 0 → ∀ b, b < 0 → a ≠ b → (TJ3 a).2.1 ≠ (TJ3 b).2.1 := by decide +kernel
theorem tyJ3_ok : ∀ k, k < 0 → parseFieldDescriptor (TJ3 k).2.2.1 = some (tyJ3 k) := by decide +kernel
abbrev cJ3_checkIndex_8e157 : ByteArray := prog_41_method_11_code
def yJ3_checkIndex_8e157 : MethodName := ⟨RJ3, "checkIndex", "(IILjava/util/function/BiFunction;)I"⟩
abbrev cJ3_checkFromToIndex_8c36e : ByteArray := prog_41_method_12_code
def yJ3_checkFromToIndex_8c36e : MethodName := ⟨RJ3, "checkFromToIndex", "(IIILjava/util/function/BiFunction;)I"⟩
abbrev cJ3_checkFromIndexSize_8c36e : ByteArray := prog_41_method_13_code
def yJ3_checkFromIndexSize_8c36e : MethodName := ⟨RJ3, "checkFromIndexSize", "(IIILjava/util/function/BiFunction;)I"⟩
def RL : String := "CovenanterLaw"
abbrev cL_amount : ByteArray := method_3_code
def yL_amount : MethodName := ⟨RL, "amount", "(LCovenanter;III[J)I"⟩
abbrev cL_account : ByteArray := method_4_code
def yL_account : MethodName := ⟨RL, "account", "(LCovenanter;I[J)I"⟩
abbrev cL_number : ByteArray := method_5_code
def yL_number : MethodName := ⟨RL, "number", "(LCovenanter;I[J)I"⟩
abbrev cL_term : ByteArray := method_6_code
def yL_term : MethodName := ⟨RL, "term", "(LCovenanter;I[J)I"⟩
abbrev cL_join : ByteArray := method_7_code
def yL_join : MethodName := ⟨RL, "join", "(LCovenanter;I[J)I"⟩
abbrev cL_share : ByteArray := method_8_code
def yL_share : MethodName := ⟨RL, "share", "(LCovenanter;I[J)I"⟩
abbrev cL_year : ByteArray := method_9_code
def yL_year : MethodName := ⟨RL, "year", "(LCovenanter;[J)I"⟩
abbrev cL_define : ByteArray := method_10_code
def yL_define : MethodName := ⟨RL, "define", "(LCovenanter;[J)I"⟩
abbrev cL_amend : ByteArray := method_11_code
def yL_amend : MethodName := ⟨RL, "amend", "(LCovenanter;II[J)I"⟩
abbrev cL_level : ByteArray := method_12_code
def yL_level : MethodName := ⟨RL, "level", "(LCovenanter;I[J)I"⟩
abbrev cL_value : ByteArray := method_13_code
def yL_value : MethodName := ⟨RL, "value", "(LCovenanter;II[J)I"⟩
abbrev cL_textLength : ByteArray := method_14_code
def yL_textLength : MethodName := ⟨RL, "textLength", "(LCovenanter;II[J)I"⟩
abbrev cL_textChar : ByteArray := method_15_code
def yL_textChar : MethodName := ⟨RL, "textChar", "(LCovenanter;III[J)I"⟩
abbrev cL_test : ByteArray := method_16_code
def yL_test : MethodName := ⟨RL, "test", "(LCovenanter;II[J)I"⟩
abbrev cL_limit : ByteArray := method_17_code
def yL_limit : MethodName := ⟨RL, "limit", "(LCovenanter;III[J)I"⟩
abbrev cL_wake : ByteArray := method_18_code
def yL_wake : MethodName := ⟨RL, "wake", "(LCovenanter;III[J)I"⟩
abbrev cL_cure : ByteArray := method_19_code
def yL_cure : MethodName := ⟨RL, "cure", "(LCovenanter;III[J)I"⟩
abbrev cL_waive : ByteArray := method_20_code
def yL_waive : MethodName := ⟨RL, "waive", "(LCovenanter;II[J)I"⟩
abbrev cL_state : ByteArray := method_21_code
def yL_state : MethodName := ⟨RL, "state", "(LCovenanter;II[J)I"⟩
abbrev cL_room : ByteArray := method_22_code
def yL_room : MethodName := ⟨RL, "room", "(LCovenanter;II[J)I"⟩
abbrev cL_basket : ByteArray := method_23_code
def yL_basket : MethodName := ⟨RL, "basket", "(LCovenanter;III[J)I"⟩
abbrev cL_size : ByteArray := method_24_code
def yL_size : MethodName := ⟨RL, "size", "(LCovenanter;II[J)I"⟩
abbrev cL_use : ByteArray := method_25_code
def yL_use : MethodName := ⟨RL, "use", "(LCovenanter;III[J)I"⟩
abbrev cL_refill : ByteArray := method_26_code
def yL_refill : MethodName := ⟨RL, "refill", "(LCovenanter;II[J)I"⟩
abbrev cL_law : ByteArray := code
def yL_law : MethodName := ⟨RL, "law", "([I)Z"⟩
abbrev vwCl : List vw_C := [(RJ0, TJ0, 4), (RJ4, TJ4, 4), (RJx4a65c, TJx4a65c, 3), (RX0, TX0, 4), (RX1, TX1, 8), (RX2, TX2, 9), (RX3, TX3, 4), (RX4, TX4, 5), (RX5, TX5, 30)]
end
section
theorem dJ5_init_d00df_0 : decode cJ5_init_d00df 0 = .ok (.aload_n 0, 1) := by decide +kernel
theorem dJ5_init_d00df_1 : decode cJ5_init_d00df 1 = .ok (.invokespecial 3, 3) := by decide +kernel
theorem dJ5_init_d00df_4 : decode cJ5_init_d00df 4 = .ok (.getstatic 18, 3) := by decide +kernel
theorem dJ5_init_d00df_7 : decode cJ5_init_d00df 7 = .ok (.ifCond .eq 18, 3) := by decide +kernel
theorem dJ5_init_d00df_10 : decode cJ5_init_d00df 10 = .ok (.aload_n 0, 1) := by decide +kernel
theorem dJ5_init_d00df_11 : decode cJ5_init_d00df 11 = .ok (.iload_n 1, 1) := by decide +kernel
theorem dJ5_init_d00df_12 : decode cJ5_init_d00df 12 = .ok (.newarray .byte, 2) := by decide +kernel
theorem dJ5_init_d00df_14 : decode cJ5_init_d00df 14 = .ok (.putfield 15, 3) := by decide +kernel
theorem dJ5_init_d00df_17 : decode cJ5_init_d00df 17 = .ok (.aload_n 0, 1) := by decide +kernel
theorem dJ5_init_d00df_18 : decode cJ5_init_d00df 18 = .ok (.iconst 0, 1) := by decide +kernel
theorem dJ5_init_d00df_19 : decode cJ5_init_d00df 19 = .ok (.putfield 22, 3) := by decide +kernel
theorem dJ5_init_d00df_22 : decode cJ5_init_d00df 22 = .ok (.goto 16, 3) := by decide +kernel
theorem dJ5_init_d00df_25 : decode cJ5_init_d00df 25 = .ok (.aload_n 0, 1) := by decide +kernel
theorem dJ5_init_d00df_26 : decode cJ5_init_d00df 26 = .ok (.iload_n 1, 1) := by decide +kernel
theorem dJ5_init_d00df_27 : decode cJ5_init_d00df 27 = .ok (.invokestatic 26, 3) := by decide +kernel
theorem dJ5_init_d00df_30 : decode cJ5_init_d00df 30 = .ok (.putfield 15, 3) := by decide +kernel
theorem dJ5_init_d00df_33 : decode cJ5_init_d00df 33 = .ok (.aload_n 0, 1) := by decide +kernel
theorem dJ5_init_d00df_34 : decode cJ5_init_d00df 34 = .ok (.iconst 1, 1) := by decide +kernel
theorem dJ5_init_d00df_35 : decode cJ5_init_d00df 35 = .ok (.putfield 22, 3) := by decide +kernel
theorem dJ5_init_d00df_38 : decode cJ5_init_d00df 38 = .ok (.return_, 1) := by decide +kernel
theorem dJ5_length_8abf5_0 : decode cJ5_length_8abf5 0 = .ok (.aload_n 0, 1) := by decide +kernel
theorem dJ5_length_8abf5_1 : decode cJ5_length_8abf5 1 = .ok (.getfield 79, 3) := by decide +kernel
theorem dJ5_length_8abf5_4 : decode cJ5_length_8abf5 4 = .ok (.ireturn, 1) := by decide +kernel
theorem dJ5_ensureCapacityInternal_d00df_0 : decode cJ5_ensureCapacityInternal_d00df 0 = .ok (.aload_n 0, 1) := by decide +kernel
theorem dJ5_ensureCapacityInternal_d00df_1 : decode cJ5_ensureCapacityInternal_d00df 1 = .ok (.getfield 15, 3) := by decide +kernel
theorem dJ5_ensureCapacityInternal_d00df_4 : decode cJ5_ensureCapacityInternal_d00df 4 = .ok (.arraylength, 1) := by decide +kernel
theorem dJ5_ensureCapacityInternal_d00df_5 : decode cJ5_ensureCapacityInternal_d00df 5 = .ok (.aload_n 0, 1) := by decide +kernel
theorem dJ5_ensureCapacityInternal_d00df_6 : decode cJ5_ensureCapacityInternal_d00df 6 = .ok (.getfield 22, 3) := by decide +kernel
theorem dJ5_ensureCapacityInternal_d00df_9 : decode cJ5_ensureCapacityInternal_d00df 9 = .ok (.ishr, 1) := by decide +kernel
theorem dJ5_ensureCapacityInternal_d00df_10 : decode cJ5_ensureCapacityInternal_d00df 10 = .ok (.istore_n 2, 1) := by decide +kernel
theorem dJ5_ensureCapacityInternal_d00df_11 : decode cJ5_ensureCapacityInternal_d00df 11 = .ok (.iload_n 1, 1) := by decide +kernel
theorem dJ5_ensureCapacityInternal_d00df_12 : decode cJ5_ensureCapacityInternal_d00df 12 = .ok (.iload_n 2, 1) := by decide +kernel
theorem dJ5_ensureCapacityInternal_d00df_13 : decode cJ5_ensureCapacityInternal_d00df 13 = .ok (.isub, 1) := by decide +kernel
theorem dJ5_ensureCapacityInternal_d00df_14 : decode cJ5_ensureCapacityInternal_d00df 14 = .ok (.ifCond .le 24, 3) := by decide +kernel
theorem dJ5_ensureCapacityInternal_d00df_17 : decode cJ5_ensureCapacityInternal_d00df 17 = .ok (.aload_n 0, 1) := by decide +kernel
theorem dJ5_ensureCapacityInternal_d00df_18 : decode cJ5_ensureCapacityInternal_d00df 18 = .ok (.aload_n 0, 1) := by decide +kernel
theorem dJ5_ensureCapacityInternal_d00df_19 : decode cJ5_ensureCapacityInternal_d00df 19 = .ok (.getfield 15, 3) := by decide +kernel
theorem dJ5_ensureCapacityInternal_d00df_22 : decode cJ5_ensureCapacityInternal_d00df 22 = .ok (.aload_n 0, 1) := by decide +kernel
theorem dJ5_ensureCapacityInternal_d00df_23 : decode cJ5_ensureCapacityInternal_d00df 23 = .ok (.iload_n 1, 1) := by decide +kernel
theorem dJ5_ensureCapacityInternal_d00df_24 : decode cJ5_ensureCapacityInternal_d00df 24 = .ok (.invokevirtual 104, 3) := by decide +kernel
theorem dJ5_ensureCapacityInternal_d00df_27 : decode cJ5_ensureCapacityInternal_d00df 27 = .ok (.aload_n 0, 1) := by decide +kernel
theorem dJ5_ensureCapacityInternal_d00df_28 : decode cJ5_ensureCapacityInternal_d00df 28 = .ok (.getfield 22, 3) := by decide +kernel
theorem dJ5_ensureCapacityInternal_d00df_31 : decode cJ5_ensureCapacityInternal_d00df 31 = .ok (.ishl, 1) := by decide +kernel
theorem dJ5_ensureCapacityInternal_d00df_32 : decode cJ5_ensureCapacityInternal_d00df 32 = .ok (.invokestatic 108, 3) := by decide +kernel
theorem dJ5_ensureCapacityInternal_d00df_35 : decode cJ5_ensureCapacityInternal_d00df 35 = .ok (.putfield 15, 3) := by decide +kernel
theorem dJ5_ensureCapacityInternal_d00df_38 : decode cJ5_ensureCapacityInternal_d00df 38 = .ok (.return_, 1) := by decide +kernel
theorem dJ5_newCapacity_0f7a4_0 : decode cJ5_newCapacity_0f7a4 0 = .ok (.aload_n 0, 1) := by decide +kernel
theorem dJ5_newCapacity_0f7a4_1 : decode cJ5_newCapacity_0f7a4 1 = .ok (.getfield 15, 3) := by decide +kernel
theorem dJ5_newCapacity_0f7a4_4 : decode cJ5_newCapacity_0f7a4 4 = .ok (.arraylength, 1) := by decide +kernel
theorem dJ5_newCapacity_0f7a4_5 : decode cJ5_newCapacity_0f7a4 5 = .ok (.istore_n 2, 1) := by decide +kernel
theorem dJ5_newCapacity_0f7a4_6 : decode cJ5_newCapacity_0f7a4 6 = .ok (.iload_n 1, 1) := by decide +kernel
theorem dJ5_newCapacity_0f7a4_7 : decode cJ5_newCapacity_0f7a4 7 = .ok (.aload_n 0, 1) := by decide +kernel
theorem dJ5_newCapacity_0f7a4_8 : decode cJ5_newCapacity_0f7a4 8 = .ok (.getfield 22, 3) := by decide +kernel
theorem dJ5_newCapacity_0f7a4_11 : decode cJ5_newCapacity_0f7a4 11 = .ok (.ishl, 1) := by decide +kernel
theorem dJ5_newCapacity_0f7a4_12 : decode cJ5_newCapacity_0f7a4 12 = .ok (.istore_n 3, 1) := by decide +kernel
theorem dJ5_newCapacity_0f7a4_13 : decode cJ5_newCapacity_0f7a4 13 = .ok (.iload_n 3, 1) := by decide +kernel
theorem dJ5_newCapacity_0f7a4_14 : decode cJ5_newCapacity_0f7a4 14 = .ok (.iload_n 2, 1) := by decide +kernel
theorem dJ5_newCapacity_0f7a4_15 : decode cJ5_newCapacity_0f7a4 15 = .ok (.isub, 1) := by decide +kernel
theorem dJ5_newCapacity_0f7a4_16 : decode cJ5_newCapacity_0f7a4 16 = .ok (.istore 4, 2) := by decide +kernel
theorem dJ5_newCapacity_0f7a4_18 : decode cJ5_newCapacity_0f7a4 18 = .ok (.iload_n 2, 1) := by decide +kernel
theorem dJ5_newCapacity_0f7a4_19 : decode cJ5_newCapacity_0f7a4 19 = .ok (.iload 4, 2) := by decide +kernel
theorem dJ5_newCapacity_0f7a4_21 : decode cJ5_newCapacity_0f7a4 21 = .ok (.iload_n 2, 1) := by decide +kernel
theorem dJ5_newCapacity_0f7a4_22 : decode cJ5_newCapacity_0f7a4 22 = .ok (.iconst 2, 1) := by decide +kernel
theorem dJ5_newCapacity_0f7a4_23 : decode cJ5_newCapacity_0f7a4 23 = .ok (.aload_n 0, 1) := by decide +kernel
theorem dJ5_newCapacity_0f7a4_24 : decode cJ5_newCapacity_0f7a4 24 = .ok (.getfield 22, 3) := by decide +kernel
theorem dJ5_newCapacity_0f7a4_27 : decode cJ5_newCapacity_0f7a4 27 = .ok (.ishl, 1) := by decide +kernel
theorem dJ5_newCapacity_0f7a4_28 : decode cJ5_newCapacity_0f7a4 28 = .ok (.iadd, 1) := by decide +kernel
theorem dJ5_newCapacity_0f7a4_29 : decode cJ5_newCapacity_0f7a4 29 = .ok (.invokestatic 114, 3) := by decide +kernel
theorem dJ5_newCapacity_0f7a4_32 : decode cJ5_newCapacity_0f7a4 32 = .ok (.istore 5, 2) := by decide +kernel
theorem dJ5_newCapacity_0f7a4_34 : decode cJ5_newCapacity_0f7a4 34 = .ok (.iload 5, 2) := by decide +kernel
theorem dJ5_newCapacity_0f7a4_36 : decode cJ5_newCapacity_0f7a4 36 = .ok (.ldc 39, 2) := by decide +kernel
theorem dJ5_newCapacity_0f7a4_38 : decode cJ5_newCapacity_0f7a4 38 = .ok (.if_icmp .ne 13, 3) := by decide +kernel
theorem dJ5_newCapacity_0f7a4_41 : decode cJ5_newCapacity_0f7a4 41 = .ok (.new 120, 3) := by decide +kernel
theorem dJ5_newCapacity_0f7a4_44 : decode cJ5_newCapacity_0f7a4 44 = .ok (.dup, 1) := by decide +kernel
theorem dJ5_newCapacity_0f7a4_45 : decode cJ5_newCapacity_0f7a4 45 = .ok (.ldc 122, 2) := by decide +kernel
theorem dJ5_newCapacity_0f7a4_47 : decode cJ5_newCapacity_0f7a4 47 = .ok (.invokespecial 124, 3) := by decide +kernel
theorem dJ5_newCapacity_0f7a4_50 : decode cJ5_newCapacity_0f7a4 50 = .ok (.athrow, 1) := by decide +kernel
theorem dJ5_newCapacity_0f7a4_51 : decode cJ5_newCapacity_0f7a4 51 = .ok (.iload 5, 2) := by decide +kernel
theorem dJ5_newCapacity_0f7a4_53 : decode cJ5_newCapacity_0f7a4 53 = .ok (.aload_n 0, 1) := by decide +kernel
theorem dJ5_newCapacity_0f7a4_54 : decode cJ5_newCapacity_0f7a4 54 = .ok (.getfield 22, 3) := by decide +kernel
theorem dJ5_newCapacity_0f7a4_57 : decode cJ5_newCapacity_0f7a4 57 = .ok (.ishr, 1) := by decide +kernel
theorem dJ5_newCapacity_0f7a4_58 : decode cJ5_newCapacity_0f7a4 58 = .ok (.ireturn, 1) := by decide +kernel
theorem dJ5_inflate_da8c8_0 : decode cJ5_inflate_da8c8 0 = .ok (.aload_n 0, 1) := by decide +kernel
theorem dJ5_inflate_da8c8_1 : decode cJ5_inflate_da8c8 1 = .ok (.invokevirtual 83, 3) := by decide +kernel
theorem dJ5_inflate_da8c8_4 : decode cJ5_inflate_da8c8 4 = .ok (.ifCond .ne 4, 3) := by decide +kernel
theorem dJ5_inflate_da8c8_7 : decode cJ5_inflate_da8c8 7 = .ok (.return_, 1) := by decide +kernel
theorem dJ5_inflate_da8c8_8 : decode cJ5_inflate_da8c8 8 = .ok (.aload_n 0, 1) := by decide +kernel
theorem dJ5_inflate_da8c8_9 : decode cJ5_inflate_da8c8 9 = .ok (.getfield 15, 3) := by decide +kernel
theorem dJ5_inflate_da8c8_12 : decode cJ5_inflate_da8c8 12 = .ok (.arraylength, 1) := by decide +kernel
theorem dJ5_inflate_da8c8_13 : decode cJ5_inflate_da8c8 13 = .ok (.invokestatic 26, 3) := by decide +kernel
theorem dJ5_inflate_da8c8_16 : decode cJ5_inflate_da8c8 16 = .ok (.astore_n 1, 1) := by decide +kernel
theorem dJ5_inflate_da8c8_17 : decode cJ5_inflate_da8c8 17 = .ok (.aload_n 0, 1) := by decide +kernel
theorem dJ5_inflate_da8c8_18 : decode cJ5_inflate_da8c8 18 = .ok (.getfield 15, 3) := by decide +kernel
theorem dJ5_inflate_da8c8_21 : decode cJ5_inflate_da8c8 21 = .ok (.iconst 0, 1) := by decide +kernel
theorem dJ5_inflate_da8c8_22 : decode cJ5_inflate_da8c8 22 = .ok (.aload_n 1, 1) := by decide +kernel
theorem dJ5_inflate_da8c8_23 : decode cJ5_inflate_da8c8 23 = .ok (.iconst 0, 1) := by decide +kernel
theorem dJ5_inflate_da8c8_24 : decode cJ5_inflate_da8c8 24 = .ok (.aload_n 0, 1) := by decide +kernel
theorem dJ5_inflate_da8c8_25 : decode cJ5_inflate_da8c8 25 = .ok (.getfield 79, 3) := by decide +kernel
theorem dJ5_inflate_da8c8_28 : decode cJ5_inflate_da8c8 28 = .ok (.invokestatic 125, 3) := by decide +kernel
theorem dJ5_inflate_da8c8_31 : decode cJ5_inflate_da8c8 31 = .ok (.aload_n 0, 1) := by decide +kernel
theorem dJ5_inflate_da8c8_32 : decode cJ5_inflate_da8c8 32 = .ok (.aload_n 1, 1) := by decide +kernel
theorem dJ5_inflate_da8c8_33 : decode cJ5_inflate_da8c8 33 = .ok (.putfield 15, 3) := by decide +kernel
theorem dJ5_inflate_da8c8_36 : decode cJ5_inflate_da8c8 36 = .ok (.aload_n 0, 1) := by decide +kernel
theorem dJ5_inflate_da8c8_37 : decode cJ5_inflate_da8c8 37 = .ok (.iconst 1, 1) := by decide +kernel
theorem dJ5_inflate_da8c8_38 : decode cJ5_inflate_da8c8 38 = .ok (.putfield 22, 3) := by decide +kernel
theorem dJ5_inflate_da8c8_41 : decode cJ5_inflate_da8c8 41 = .ok (.return_, 1) := by decide +kernel
theorem dJ5_append_cf1ce_0 : decode cJ5_append_cf1ce 0 = .ok (.aload_n 1, 1) := by decide +kernel
theorem dJ5_append_cf1ce_1 : decode cJ5_append_cf1ce 1 = .ok (.ifnonnull 8, 3) := by decide +kernel
theorem dJ5_append_cf1ce_4 : decode cJ5_append_cf1ce 4 = .ok (.aload_n 0, 1) := by decide +kernel
theorem dJ5_append_cf1ce_5 : decode cJ5_append_cf1ce 5 = .ok (.invokevirtual 204, 3) := by decide +kernel
theorem dJ5_append_cf1ce_8 : decode cJ5_append_cf1ce 8 = .ok (.areturn, 1) := by decide +kernel
theorem dJ5_append_cf1ce_9 : decode cJ5_append_cf1ce 9 = .ok (.aload_n 1, 1) := by decide +kernel
theorem dJ5_append_cf1ce_10 : decode cJ5_append_cf1ce 10 = .ok (.invokevirtual 32, 3) := by decide +kernel
theorem dJ5_append_cf1ce_13 : decode cJ5_append_cf1ce 13 = .ok (.istore_n 2, 1) := by decide +kernel
theorem dJ5_append_cf1ce_14 : decode cJ5_append_cf1ce 14 = .ok (.aload_n 0, 1) := by decide +kernel
theorem dJ5_append_cf1ce_15 : decode cJ5_append_cf1ce 15 = .ok (.aload_n 0, 1) := by decide +kernel
theorem dJ5_append_cf1ce_16 : decode cJ5_append_cf1ce 16 = .ok (.getfield 79, 3) := by decide +kernel
theorem dJ5_append_cf1ce_19 : decode cJ5_append_cf1ce 19 = .ok (.iload_n 2, 1) := by decide +kernel
theorem dJ5_append_cf1ce_20 : decode cJ5_append_cf1ce 20 = .ok (.iadd, 1) := by decide +kernel
theorem dJ5_append_cf1ce_21 : decode cJ5_append_cf1ce 21 = .ok (.invokevirtual 100, 3) := by decide +kernel
theorem dJ5_append_cf1ce_24 : decode cJ5_append_cf1ce 24 = .ok (.aload_n 0, 1) := by decide +kernel
theorem dJ5_append_cf1ce_25 : decode cJ5_append_cf1ce 25 = .ok (.aload_n 0, 1) := by decide +kernel
theorem dJ5_append_cf1ce_26 : decode cJ5_append_cf1ce 26 = .ok (.getfield 79, 3) := by decide +kernel
theorem dJ5_append_cf1ce_29 : decode cJ5_append_cf1ce 29 = .ok (.aload_n 1, 1) := by decide +kernel
theorem dJ5_append_cf1ce_30 : decode cJ5_append_cf1ce 30 = .ok (.invokevirtual 208, 3) := by decide +kernel
theorem dJ5_append_cf1ce_33 : decode cJ5_append_cf1ce 33 = .ok (.aload_n 0, 1) := by decide +kernel
theorem dJ5_append_cf1ce_34 : decode cJ5_append_cf1ce 34 = .ok (.dup, 1) := by decide +kernel
theorem dJ5_append_cf1ce_35 : decode cJ5_append_cf1ce 35 = .ok (.getfield 79, 3) := by decide +kernel
theorem dJ5_append_cf1ce_38 : decode cJ5_append_cf1ce 38 = .ok (.iload_n 2, 1) := by decide +kernel
theorem dJ5_append_cf1ce_39 : decode cJ5_append_cf1ce 39 = .ok (.iadd, 1) := by decide +kernel
theorem dJ5_append_cf1ce_40 : decode cJ5_append_cf1ce 40 = .ok (.putfield 79, 3) := by decide +kernel
theorem dJ5_append_cf1ce_43 : decode cJ5_append_cf1ce 43 = .ok (.aload_n 0, 1) := by decide +kernel
theorem dJ5_append_cf1ce_44 : decode cJ5_append_cf1ce 44 = .ok (.areturn, 1) := by decide +kernel
theorem dJ5_appendNull_278bc_0 : decode cJ5_appendNull_278bc 0 = .ok (.aload_n 0, 1) := by decide +kernel
theorem dJ5_appendNull_278bc_1 : decode cJ5_appendNull_278bc 1 = .ok (.aload_n 0, 1) := by decide +kernel
theorem dJ5_appendNull_278bc_2 : decode cJ5_appendNull_278bc 2 = .ok (.getfield 79, 3) := by decide +kernel
theorem dJ5_appendNull_278bc_5 : decode cJ5_appendNull_278bc 5 = .ok (.iconst 4, 1) := by decide +kernel
theorem dJ5_appendNull_278bc_6 : decode cJ5_appendNull_278bc 6 = .ok (.iadd, 1) := by decide +kernel
theorem dJ5_appendNull_278bc_7 : decode cJ5_appendNull_278bc 7 = .ok (.invokevirtual 100, 3) := by decide +kernel
theorem dJ5_appendNull_278bc_10 : decode cJ5_appendNull_278bc 10 = .ok (.aload_n 0, 1) := by decide +kernel
theorem dJ5_appendNull_278bc_11 : decode cJ5_appendNull_278bc 11 = .ok (.getfield 79, 3) := by decide +kernel
theorem dJ5_appendNull_278bc_14 : decode cJ5_appendNull_278bc 14 = .ok (.istore_n 1, 1) := by decide +kernel
theorem dJ5_appendNull_278bc_15 : decode cJ5_appendNull_278bc 15 = .ok (.aload_n 0, 1) := by decide +kernel
theorem dJ5_appendNull_278bc_16 : decode cJ5_appendNull_278bc 16 = .ok (.getfield 15, 3) := by decide +kernel
theorem dJ5_appendNull_278bc_19 : decode cJ5_appendNull_278bc 19 = .ok (.astore_n 2, 1) := by decide +kernel
theorem dJ5_appendNull_278bc_20 : decode cJ5_appendNull_278bc 20 = .ok (.aload_n 0, 1) := by decide +kernel
theorem dJ5_appendNull_278bc_21 : decode cJ5_appendNull_278bc 21 = .ok (.invokevirtual 83, 3) := by decide +kernel
theorem dJ5_appendNull_278bc_24 : decode cJ5_appendNull_278bc 24 = .ok (.ifCond .eq 38, 3) := by decide +kernel
theorem dJ5_appendNull_278bc_27 : decode cJ5_appendNull_278bc 27 = .ok (.aload_n 2, 1) := by decide +kernel
theorem dJ5_appendNull_278bc_28 : decode cJ5_appendNull_278bc 28 = .ok (.iload_n 1, 1) := by decide +kernel
theorem dJ5_appendNull_278bc_29 : decode cJ5_appendNull_278bc 29 = .ok (.iinc 1 1, 3) := by decide +kernel
theorem dJ5_appendNull_278bc_32 : decode cJ5_appendNull_278bc 32 = .ok (.bipush 110, 2) := by decide +kernel
theorem dJ5_appendNull_278bc_34 : decode cJ5_appendNull_278bc 34 = .ok (.bastore, 1) := by decide +kernel
theorem dJ5_appendNull_278bc_35 : decode cJ5_appendNull_278bc 35 = .ok (.aload_n 2, 1) := by decide +kernel
theorem dJ5_appendNull_278bc_36 : decode cJ5_appendNull_278bc 36 = .ok (.iload_n 1, 1) := by decide +kernel
theorem dJ5_appendNull_278bc_37 : decode cJ5_appendNull_278bc 37 = .ok (.iinc 1 1, 3) := by decide +kernel
theorem dJ5_appendNull_278bc_40 : decode cJ5_appendNull_278bc 40 = .ok (.bipush 117, 2) := by decide +kernel
theorem dJ5_appendNull_278bc_42 : decode cJ5_appendNull_278bc 42 = .ok (.bastore, 1) := by decide +kernel
theorem dJ5_appendNull_278bc_43 : decode cJ5_appendNull_278bc 43 = .ok (.aload_n 2, 1) := by decide +kernel
theorem dJ5_appendNull_278bc_44 : decode cJ5_appendNull_278bc 44 = .ok (.iload_n 1, 1) := by decide +kernel
theorem dJ5_appendNull_278bc_45 : decode cJ5_appendNull_278bc 45 = .ok (.iinc 1 1, 3) := by decide +kernel
theorem dJ5_appendNull_278bc_48 : decode cJ5_appendNull_278bc 48 = .ok (.bipush 108, 2) := by decide +kernel
theorem dJ5_appendNull_278bc_50 : decode cJ5_appendNull_278bc 50 = .ok (.bastore, 1) := by decide +kernel
theorem dJ5_appendNull_278bc_51 : decode cJ5_appendNull_278bc 51 = .ok (.aload_n 2, 1) := by decide +kernel
theorem dJ5_appendNull_278bc_52 : decode cJ5_appendNull_278bc 52 = .ok (.iload_n 1, 1) := by decide +kernel
theorem dJ5_appendNull_278bc_53 : decode cJ5_appendNull_278bc 53 = .ok (.iinc 1 1, 3) := by decide +kernel
theorem dJ5_appendNull_278bc_56 : decode cJ5_appendNull_278bc 56 = .ok (.bipush 108, 2) := by decide +kernel
theorem dJ5_appendNull_278bc_58 : decode cJ5_appendNull_278bc 58 = .ok (.bastore, 1) := by decide +kernel
theorem dJ5_appendNull_278bc_59 : decode cJ5_appendNull_278bc 59 = .ok (.goto 17, 3) := by decide +kernel
theorem dJ5_appendNull_278bc_62 : decode cJ5_appendNull_278bc 62 = .ok (.aload_n 2, 1) := by decide +kernel
theorem dJ5_appendNull_278bc_63 : decode cJ5_appendNull_278bc 63 = .ok (.iload_n 1, 1) := by decide +kernel
theorem dJ5_appendNull_278bc_64 : decode cJ5_appendNull_278bc 64 = .ok (.bipush 110, 2) := by decide +kernel
theorem dJ5_appendNull_278bc_66 : decode cJ5_appendNull_278bc 66 = .ok (.bipush 117, 2) := by decide +kernel
theorem dJ5_appendNull_278bc_68 : decode cJ5_appendNull_278bc 68 = .ok (.bipush 108, 2) := by decide +kernel
theorem dJ5_appendNull_278bc_70 : decode cJ5_appendNull_278bc 70 = .ok (.bipush 108, 2) := by decide +kernel
theorem dJ5_appendNull_278bc_72 : decode cJ5_appendNull_278bc 72 = .ok (.invokestatic 226, 3) := by decide +kernel
theorem dJ5_appendNull_278bc_75 : decode cJ5_appendNull_278bc 75 = .ok (.istore_n 1, 1) := by decide +kernel
theorem dJ5_appendNull_278bc_76 : decode cJ5_appendNull_278bc 76 = .ok (.aload_n 0, 1) := by decide +kernel
theorem dJ5_appendNull_278bc_77 : decode cJ5_appendNull_278bc 77 = .ok (.iload_n 1, 1) := by decide +kernel
theorem dJ5_appendNull_278bc_78 : decode cJ5_appendNull_278bc 78 = .ok (.putfield 79, 3) := by decide +kernel
theorem dJ5_appendNull_278bc_81 : decode cJ5_appendNull_278bc 81 = .ok (.aload_n 0, 1) := by decide +kernel
theorem dJ5_appendNull_278bc_82 : decode cJ5_appendNull_278bc 82 = .ok (.areturn, 1) := by decide +kernel
theorem dJ5_append_3fe6f_0 : decode cJ5_append_3fe6f 0 = .ok (.aload_n 0, 1) := by decide +kernel
theorem dJ5_append_3fe6f_1 : decode cJ5_append_3fe6f 1 = .ok (.aload_n 0, 1) := by decide +kernel
theorem dJ5_append_3fe6f_2 : decode cJ5_append_3fe6f 2 = .ok (.getfield 79, 3) := by decide +kernel
theorem dJ5_append_3fe6f_5 : decode cJ5_append_3fe6f 5 = .ok (.iconst 1, 1) := by decide +kernel
theorem dJ5_append_3fe6f_6 : decode cJ5_append_3fe6f 6 = .ok (.iadd, 1) := by decide +kernel
theorem dJ5_append_3fe6f_7 : decode cJ5_append_3fe6f 7 = .ok (.invokevirtual 100, 3) := by decide +kernel
theorem dJ5_append_3fe6f_10 : decode cJ5_append_3fe6f 10 = .ok (.aload_n 0, 1) := by decide +kernel
theorem dJ5_append_3fe6f_11 : decode cJ5_append_3fe6f 11 = .ok (.invokevirtual 83, 3) := by decide +kernel
theorem dJ5_append_3fe6f_14 : decode cJ5_append_3fe6f 14 = .ok (.ifCond .eq 31, 3) := by decide +kernel
theorem dJ5_append_3fe6f_17 : decode cJ5_append_3fe6f 17 = .ok (.iload_n 1, 1) := by decide +kernel
theorem dJ5_append_3fe6f_18 : decode cJ5_append_3fe6f 18 = .ok (.invokestatic 191, 3) := by decide +kernel
theorem dJ5_append_3fe6f_21 : decode cJ5_append_3fe6f 21 = .ok (.ifCond .eq 24, 3) := by decide +kernel
theorem dJ5_append_3fe6f_24 : decode cJ5_append_3fe6f 24 = .ok (.aload_n 0, 1) := by decide +kernel
theorem dJ5_append_3fe6f_25 : decode cJ5_append_3fe6f 25 = .ok (.getfield 15, 3) := by decide +kernel
theorem dJ5_append_3fe6f_28 : decode cJ5_append_3fe6f 28 = .ok (.aload_n 0, 1) := by decide +kernel
theorem dJ5_append_3fe6f_29 : decode cJ5_append_3fe6f 29 = .ok (.dup, 1) := by decide +kernel
theorem dJ5_append_3fe6f_30 : decode cJ5_append_3fe6f 30 = .ok (.getfield 79, 3) := by decide +kernel
theorem dJ5_append_3fe6f_33 : decode cJ5_append_3fe6f 33 = .ok (.dup_x1, 1) := by decide +kernel
theorem dJ5_append_3fe6f_34 : decode cJ5_append_3fe6f 34 = .ok (.iconst 1, 1) := by decide +kernel
theorem dJ5_append_3fe6f_35 : decode cJ5_append_3fe6f 35 = .ok (.iadd, 1) := by decide +kernel
theorem dJ5_append_3fe6f_36 : decode cJ5_append_3fe6f 36 = .ok (.putfield 79, 3) := by decide +kernel
theorem dJ5_append_3fe6f_39 : decode cJ5_append_3fe6f 39 = .ok (.iload_n 1, 1) := by decide +kernel
theorem dJ5_append_3fe6f_40 : decode cJ5_append_3fe6f 40 = .ok (.i2b, 1) := by decide +kernel
theorem dJ5_append_3fe6f_41 : decode cJ5_append_3fe6f 41 = .ok (.bastore, 1) := by decide +kernel
theorem dJ5_append_3fe6f_42 : decode cJ5_append_3fe6f 42 = .ok (.goto 33, 3) := by decide +kernel
theorem dJ5_append_3fe6f_45 : decode cJ5_append_3fe6f 45 = .ok (.aload_n 0, 1) := by decide +kernel
theorem dJ5_append_3fe6f_46 : decode cJ5_append_3fe6f 46 = .ok (.invokevirtual 83, 3) := by decide +kernel
theorem dJ5_append_3fe6f_49 : decode cJ5_append_3fe6f 49 = .ok (.ifCond .eq 7, 3) := by decide +kernel
theorem dJ5_append_3fe6f_52 : decode cJ5_append_3fe6f 52 = .ok (.aload_n 0, 1) := by decide +kernel
theorem dJ5_append_3fe6f_53 : decode cJ5_append_3fe6f 53 = .ok (.invokevirtual 195, 3) := by decide +kernel
theorem dJ5_append_3fe6f_56 : decode cJ5_append_3fe6f 56 = .ok (.aload_n 0, 1) := by decide +kernel
theorem dJ5_append_3fe6f_57 : decode cJ5_append_3fe6f 57 = .ok (.getfield 15, 3) := by decide +kernel
theorem dJ5_append_3fe6f_60 : decode cJ5_append_3fe6f 60 = .ok (.aload_n 0, 1) := by decide +kernel
theorem dJ5_append_3fe6f_61 : decode cJ5_append_3fe6f 61 = .ok (.dup, 1) := by decide +kernel
theorem dJ5_append_3fe6f_62 : decode cJ5_append_3fe6f 62 = .ok (.getfield 79, 3) := by decide +kernel
theorem dJ5_append_3fe6f_65 : decode cJ5_append_3fe6f 65 = .ok (.dup_x1, 1) := by decide +kernel
theorem dJ5_append_3fe6f_66 : decode cJ5_append_3fe6f 66 = .ok (.iconst 1, 1) := by decide +kernel
theorem dJ5_append_3fe6f_67 : decode cJ5_append_3fe6f 67 = .ok (.iadd, 1) := by decide +kernel
theorem dJ5_append_3fe6f_68 : decode cJ5_append_3fe6f 68 = .ok (.putfield 79, 3) := by decide +kernel
theorem dJ5_append_3fe6f_71 : decode cJ5_append_3fe6f 71 = .ok (.iload_n 1, 1) := by decide +kernel
theorem dJ5_append_3fe6f_72 : decode cJ5_append_3fe6f 72 = .ok (.invokestatic 197, 3) := by decide +kernel
theorem dJ5_append_3fe6f_75 : decode cJ5_append_3fe6f 75 = .ok (.aload_n 0, 1) := by decide +kernel
theorem dJ5_append_3fe6f_76 : decode cJ5_append_3fe6f 76 = .ok (.areturn, 1) := by decide +kernel
theorem dJ5_append_c97b9_0 : decode cJ5_append_c97b9 0 = .ok (.aload_n 0, 1) := by decide +kernel
theorem dJ5_append_c97b9_1 : decode cJ5_append_c97b9 1 = .ok (.getfield 79, 3) := by decide +kernel
theorem dJ5_append_c97b9_4 : decode cJ5_append_c97b9 4 = .ok (.istore_n 2, 1) := by decide +kernel
theorem dJ5_append_c97b9_5 : decode cJ5_append_c97b9 5 = .ok (.iload_n 2, 1) := by decide +kernel
theorem dJ5_append_c97b9_6 : decode cJ5_append_c97b9 6 = .ok (.iload_n 1, 1) := by decide +kernel
theorem dJ5_append_c97b9_7 : decode cJ5_append_c97b9 7 = .ok (.invokestatic 245, 3) := by decide +kernel
theorem dJ5_append_c97b9_10 : decode cJ5_append_c97b9 10 = .ok (.iadd, 1) := by decide +kernel
theorem dJ5_append_c97b9_11 : decode cJ5_append_c97b9 11 = .ok (.istore_n 3, 1) := by decide +kernel
theorem dJ5_append_c97b9_12 : decode cJ5_append_c97b9 12 = .ok (.aload_n 0, 1) := by decide +kernel
theorem dJ5_append_c97b9_13 : decode cJ5_append_c97b9 13 = .ok (.iload_n 3, 1) := by decide +kernel
theorem dJ5_append_c97b9_14 : decode cJ5_append_c97b9 14 = .ok (.invokevirtual 100, 3) := by decide +kernel
theorem dJ5_append_c97b9_17 : decode cJ5_append_c97b9 17 = .ok (.aload_n 0, 1) := by decide +kernel
theorem dJ5_append_c97b9_18 : decode cJ5_append_c97b9 18 = .ok (.invokevirtual 83, 3) := by decide +kernel
theorem dJ5_append_c97b9_21 : decode cJ5_append_c97b9 21 = .ok (.ifCond .eq 16, 3) := by decide +kernel
theorem dJ5_append_c97b9_24 : decode cJ5_append_c97b9 24 = .ok (.iload_n 1, 1) := by decide +kernel
theorem dJ5_append_c97b9_25 : decode cJ5_append_c97b9 25 = .ok (.iload_n 3, 1) := by decide +kernel
theorem dJ5_append_c97b9_26 : decode cJ5_append_c97b9 26 = .ok (.aload_n 0, 1) := by decide +kernel
theorem dJ5_append_c97b9_27 : decode cJ5_append_c97b9 27 = .ok (.getfield 15, 3) := by decide +kernel
theorem dJ5_append_c97b9_30 : decode cJ5_append_c97b9 30 = .ok (.invokestatic 248, 3) := by decide +kernel
theorem dJ5_append_c97b9_33 : decode cJ5_append_c97b9 33 = .ok (.pop, 1) := by decide +kernel
theorem dJ5_append_c97b9_34 : decode cJ5_append_c97b9 34 = .ok (.goto 14, 3) := by decide +kernel
theorem dJ5_append_c97b9_37 : decode cJ5_append_c97b9 37 = .ok (.iload_n 1, 1) := by decide +kernel
theorem dJ5_append_c97b9_38 : decode cJ5_append_c97b9 38 = .ok (.iload_n 2, 1) := by decide +kernel
theorem dJ5_append_c97b9_39 : decode cJ5_append_c97b9 39 = .ok (.iload_n 3, 1) := by decide +kernel
theorem dJ5_append_c97b9_40 : decode cJ5_append_c97b9 40 = .ok (.aload_n 0, 1) := by decide +kernel
theorem dJ5_append_c97b9_41 : decode cJ5_append_c97b9 41 = .ok (.getfield 15, 3) := by decide +kernel
theorem dJ5_append_c97b9_44 : decode cJ5_append_c97b9 44 = .ok (.invokestatic 251, 3) := by decide +kernel
theorem dJ5_append_c97b9_47 : decode cJ5_append_c97b9 47 = .ok (.pop, 1) := by decide +kernel
theorem dJ5_append_c97b9_48 : decode cJ5_append_c97b9 48 = .ok (.aload_n 0, 1) := by decide +kernel
theorem dJ5_append_c97b9_49 : decode cJ5_append_c97b9 49 = .ok (.iload_n 3, 1) := by decide +kernel
theorem dJ5_append_c97b9_50 : decode cJ5_append_c97b9 50 = .ok (.putfield 79, 3) := by decide +kernel
theorem dJ5_append_c97b9_53 : decode cJ5_append_c97b9 53 = .ok (.aload_n 0, 1) := by decide +kernel
theorem dJ5_append_c97b9_54 : decode cJ5_append_c97b9 54 = .ok (.areturn, 1) := by decide +kernel
theorem dJ5_getValue_6d5f1_0 : decode cJ5_getValue_6d5f1 0 = .ok (.aload_n 0, 1) := by decide +kernel
theorem dJ5_getValue_6d5f1_1 : decode cJ5_getValue_6d5f1 1 = .ok (.getfield 15, 3) := by decide +kernel
theorem dJ5_getValue_6d5f1_4 : decode cJ5_getValue_6d5f1 4 = .ok (.areturn, 1) := by decide +kernel
theorem dJ5_isLatin1_aae02_0 : decode cJ5_isLatin1_aae02 0 = .ok (.getstatic 18, 3) := by decide +kernel
theorem dJ5_isLatin1_aae02_3 : decode cJ5_isLatin1_aae02 3 = .ok (.ifCond .eq 14, 3) := by decide +kernel
theorem dJ5_isLatin1_aae02_6 : decode cJ5_isLatin1_aae02 6 = .ok (.aload_n 0, 1) := by decide +kernel
theorem dJ5_isLatin1_aae02_7 : decode cJ5_isLatin1_aae02 7 = .ok (.getfield 22, 3) := by decide +kernel
theorem dJ5_isLatin1_aae02_10 : decode cJ5_isLatin1_aae02 10 = .ok (.ifCond .ne 7, 3) := by decide +kernel
theorem dJ5_isLatin1_aae02_13 : decode cJ5_isLatin1_aae02 13 = .ok (.iconst 1, 1) := by decide +kernel
theorem dJ5_isLatin1_aae02_14 : decode cJ5_isLatin1_aae02 14 = .ok (.goto 4, 3) := by decide +kernel
theorem dJ5_isLatin1_aae02_17 : decode cJ5_isLatin1_aae02 17 = .ok (.iconst 0, 1) := by decide +kernel
theorem dJ5_isLatin1_aae02_18 : decode cJ5_isLatin1_aae02 18 = .ok (.ireturn, 1) := by decide +kernel
theorem dJ5_inflateIfNeededFor_a7421_0 : decode cJ5_inflateIfNeededFor_a7421 0 = .ok (.getstatic 18, 3) := by decide +kernel
theorem dJ5_inflateIfNeededFor_a7421_3 : decode cJ5_inflateIfNeededFor_a7421 3 = .ok (.ifCond .eq 18, 3) := by decide +kernel
theorem dJ5_inflateIfNeededFor_a7421_6 : decode cJ5_inflateIfNeededFor_a7421 6 = .ok (.aload_n 0, 1) := by decide +kernel
theorem dJ5_inflateIfNeededFor_a7421_7 : decode cJ5_inflateIfNeededFor_a7421 7 = .ok (.getfield 22, 3) := by decide +kernel
theorem dJ5_inflateIfNeededFor_a7421_10 : decode cJ5_inflateIfNeededFor_a7421 10 = .ok (.aload_n 1, 1) := by decide +kernel
theorem dJ5_inflateIfNeededFor_a7421_11 : decode cJ5_inflateIfNeededFor_a7421 11 = .ok (.invokevirtual 40, 3) := by decide +kernel
theorem dJ5_inflateIfNeededFor_a7421_14 : decode cJ5_inflateIfNeededFor_a7421 14 = .ok (.if_icmp .eq 7, 3) := by decide +kernel
theorem dJ5_inflateIfNeededFor_a7421_17 : decode cJ5_inflateIfNeededFor_a7421 17 = .ok (.aload_n 0, 1) := by decide +kernel
theorem dJ5_inflateIfNeededFor_a7421_18 : decode cJ5_inflateIfNeededFor_a7421 18 = .ok (.invokevirtual 195, 3) := by decide +kernel
theorem dJ5_inflateIfNeededFor_a7421_21 : decode cJ5_inflateIfNeededFor_a7421 21 = .ok (.return_, 1) := by decide +kernel
theorem dJ5_putStringAt_47b60_0 : decode cJ5_putStringAt_47b60 0 = .ok (.aload_n 0, 1) := by decide +kernel
theorem dJ5_putStringAt_47b60_1 : decode cJ5_putStringAt_47b60 1 = .ok (.aload_n 2, 1) := by decide +kernel
theorem dJ5_putStringAt_47b60_2 : decode cJ5_putStringAt_47b60 2 = .ok (.invokevirtual 397, 3) := by decide +kernel
theorem dJ5_putStringAt_47b60_5 : decode cJ5_putStringAt_47b60 5 = .ok (.aload_n 2, 1) := by decide +kernel
theorem dJ5_putStringAt_47b60_6 : decode cJ5_putStringAt_47b60 6 = .ok (.aload_n 0, 1) := by decide +kernel
theorem dJ5_putStringAt_47b60_7 : decode cJ5_putStringAt_47b60 7 = .ok (.getfield 15, 3) := by decide +kernel
theorem dJ5_putStringAt_47b60_10 : decode cJ5_putStringAt_47b60 10 = .ok (.iload_n 1, 1) := by decide +kernel
theorem dJ5_putStringAt_47b60_11 : decode cJ5_putStringAt_47b60 11 = .ok (.aload_n 0, 1) := by decide +kernel
theorem dJ5_putStringAt_47b60_12 : decode cJ5_putStringAt_47b60 12 = .ok (.getfield 22, 3) := by decide +kernel
theorem dJ5_putStringAt_47b60_15 : decode cJ5_putStringAt_47b60 15 = .ok (.invokevirtual 399, 3) := by decide +kernel
theorem dJ5_putStringAt_47b60_18 : decode cJ5_putStringAt_47b60 18 = .ok (.return_, 1) := by decide +kernel
theorem dJ6_getChars_ba4f3_0 : decode cJ6_getChars_ba4f3 0 = .ok (.iload_n 1, 1) := by decide +kernel
theorem dJ6_getChars_ba4f3_1 : decode cJ6_getChars_ba4f3 1 = .ok (.istore 5, 2) := by decide +kernel
theorem dJ6_getChars_ba4f3_3 : decode cJ6_getChars_ba4f3 3 = .ok (.iload_n 0, 1) := by decide +kernel
theorem dJ6_getChars_ba4f3_4 : decode cJ6_getChars_ba4f3 4 = .ok (.ifCond .ge 7, 3) := by decide +kernel
theorem dJ6_getChars_ba4f3_7 : decode cJ6_getChars_ba4f3 7 = .ok (.iconst 1, 1) := by decide +kernel
theorem dJ6_getChars_ba4f3_8 : decode cJ6_getChars_ba4f3 8 = .ok (.goto 4, 3) := by decide +kernel
theorem dJ6_getChars_ba4f3_11 : decode cJ6_getChars_ba4f3 11 = .ok (.iconst 0, 1) := by decide +kernel
theorem dJ6_getChars_ba4f3_12 : decode cJ6_getChars_ba4f3 12 = .ok (.istore 6, 2) := by decide +kernel
theorem dJ6_getChars_ba4f3_14 : decode cJ6_getChars_ba4f3 14 = .ok (.iload 6, 2) := by decide +kernel
theorem dJ6_getChars_ba4f3_16 : decode cJ6_getChars_ba4f3 16 = .ok (.ifCond .ne 6, 3) := by decide +kernel
theorem dJ6_getChars_ba4f3_19 : decode cJ6_getChars_ba4f3 19 = .ok (.iload_n 0, 1) := by decide +kernel
theorem dJ6_getChars_ba4f3_20 : decode cJ6_getChars_ba4f3 20 = .ok (.ineg, 1) := by decide +kernel
theorem dJ6_getChars_ba4f3_21 : decode cJ6_getChars_ba4f3 21 = .ok (.istore_n 0, 1) := by decide +kernel
theorem dJ6_getChars_ba4f3_22 : decode cJ6_getChars_ba4f3 22 = .ok (.iload_n 0, 1) := by decide +kernel
theorem dJ6_getChars_ba4f3_23 : decode cJ6_getChars_ba4f3 23 = .ok (.bipush (-100), 2) := by decide +kernel
theorem dJ6_getChars_ba4f3_25 : decode cJ6_getChars_ba4f3 25 = .ok (.if_icmp .gt 47, 3) := by decide +kernel
theorem dJ6_getChars_ba4f3_28 : decode cJ6_getChars_ba4f3 28 = .ok (.iload_n 0, 1) := by decide +kernel
theorem dJ6_getChars_ba4f3_29 : decode cJ6_getChars_ba4f3 29 = .ok (.bipush 100, 2) := by decide +kernel
theorem dJ6_getChars_ba4f3_31 : decode cJ6_getChars_ba4f3 31 = .ok (.idiv, 1) := by decide +kernel
theorem dJ6_getChars_ba4f3_32 : decode cJ6_getChars_ba4f3 32 = .ok (.istore_n 3, 1) := by decide +kernel
theorem dJ6_getChars_ba4f3_33 : decode cJ6_getChars_ba4f3 33 = .ok (.iload_n 3, 1) := by decide +kernel
theorem dJ6_getChars_ba4f3_34 : decode cJ6_getChars_ba4f3 34 = .ok (.bipush 100, 2) := by decide +kernel
theorem dJ6_getChars_ba4f3_36 : decode cJ6_getChars_ba4f3 36 = .ok (.imul, 1) := by decide +kernel
theorem dJ6_getChars_ba4f3_37 : decode cJ6_getChars_ba4f3 37 = .ok (.iload_n 0, 1) := by decide +kernel
theorem dJ6_getChars_ba4f3_38 : decode cJ6_getChars_ba4f3 38 = .ok (.isub, 1) := by decide +kernel
theorem dJ6_getChars_ba4f3_39 : decode cJ6_getChars_ba4f3 39 = .ok (.istore 4, 2) := by decide +kernel
theorem dJ6_getChars_ba4f3_41 : decode cJ6_getChars_ba4f3 41 = .ok (.iload_n 3, 1) := by decide +kernel
theorem dJ6_getChars_ba4f3_42 : decode cJ6_getChars_ba4f3 42 = .ok (.istore_n 0, 1) := by decide +kernel
theorem dJ6_getChars_ba4f3_43 : decode cJ6_getChars_ba4f3 43 = .ok (.aload_n 2, 1) := by decide +kernel
theorem dJ6_getChars_ba4f3_44 : decode cJ6_getChars_ba4f3 44 = .ok (.iinc 5 (-1), 3) := by decide +kernel
theorem dJ6_getChars_ba4f3_47 : decode cJ6_getChars_ba4f3 47 = .ok (.iload 5, 2) := by decide +kernel
theorem dJ6_getChars_ba4f3_49 : decode cJ6_getChars_ba4f3 49 = .ok (.getstatic 83, 3) := by decide +kernel
theorem dJ6_getChars_ba4f3_52 : decode cJ6_getChars_ba4f3 52 = .ok (.iload 4, 2) := by decide +kernel
theorem dJ6_getChars_ba4f3_54 : decode cJ6_getChars_ba4f3 54 = .ok (.baload, 1) := by decide +kernel
theorem dJ6_getChars_ba4f3_55 : decode cJ6_getChars_ba4f3 55 = .ok (.bastore, 1) := by decide +kernel
theorem dJ6_getChars_ba4f3_56 : decode cJ6_getChars_ba4f3 56 = .ok (.aload_n 2, 1) := by decide +kernel
theorem dJ6_getChars_ba4f3_57 : decode cJ6_getChars_ba4f3 57 = .ok (.iinc 5 (-1), 3) := by decide +kernel
theorem dJ6_getChars_ba4f3_60 : decode cJ6_getChars_ba4f3 60 = .ok (.iload 5, 2) := by decide +kernel
theorem dJ6_getChars_ba4f3_62 : decode cJ6_getChars_ba4f3 62 = .ok (.getstatic 87, 3) := by decide +kernel
theorem dJ6_getChars_ba4f3_65 : decode cJ6_getChars_ba4f3 65 = .ok (.iload 4, 2) := by decide +kernel
theorem dJ6_getChars_ba4f3_67 : decode cJ6_getChars_ba4f3 67 = .ok (.baload, 1) := by decide +kernel
theorem dJ6_getChars_ba4f3_68 : decode cJ6_getChars_ba4f3 68 = .ok (.bastore, 1) := by decide +kernel
theorem dJ6_getChars_ba4f3_69 : decode cJ6_getChars_ba4f3 69 = .ok (.goto (-47), 3) := by decide +kernel
theorem dJ6_getChars_ba4f3_72 : decode cJ6_getChars_ba4f3 72 = .ok (.aload_n 2, 1) := by decide +kernel
theorem dJ6_getChars_ba4f3_73 : decode cJ6_getChars_ba4f3 73 = .ok (.iinc 5 (-1), 3) := by decide +kernel
theorem dJ6_getChars_ba4f3_76 : decode cJ6_getChars_ba4f3 76 = .ok (.iload 5, 2) := by decide +kernel
theorem dJ6_getChars_ba4f3_78 : decode cJ6_getChars_ba4f3 78 = .ok (.getstatic 83, 3) := by decide +kernel
theorem dJ6_getChars_ba4f3_81 : decode cJ6_getChars_ba4f3 81 = .ok (.iload_n 0, 1) := by decide +kernel
theorem dJ6_getChars_ba4f3_82 : decode cJ6_getChars_ba4f3 82 = .ok (.ineg, 1) := by decide +kernel
theorem dJ6_getChars_ba4f3_83 : decode cJ6_getChars_ba4f3 83 = .ok (.baload, 1) := by decide +kernel
theorem dJ6_getChars_ba4f3_84 : decode cJ6_getChars_ba4f3 84 = .ok (.bastore, 1) := by decide +kernel
theorem dJ6_getChars_ba4f3_85 : decode cJ6_getChars_ba4f3 85 = .ok (.iload_n 0, 1) := by decide +kernel
theorem dJ6_getChars_ba4f3_86 : decode cJ6_getChars_ba4f3 86 = .ok (.bipush (-9), 2) := by decide +kernel
theorem dJ6_getChars_ba4f3_88 : decode cJ6_getChars_ba4f3 88 = .ok (.if_icmp .ge 16, 3) := by decide +kernel
theorem dJ6_getChars_ba4f3_91 : decode cJ6_getChars_ba4f3 91 = .ok (.aload_n 2, 1) := by decide +kernel
theorem dJ6_getChars_ba4f3_92 : decode cJ6_getChars_ba4f3 92 = .ok (.iinc 5 (-1), 3) := by decide +kernel
theorem dJ6_getChars_ba4f3_95 : decode cJ6_getChars_ba4f3 95 = .ok (.iload 5, 2) := by decide +kernel
theorem dJ6_getChars_ba4f3_97 : decode cJ6_getChars_ba4f3 97 = .ok (.getstatic 87, 3) := by decide +kernel
theorem dJ6_getChars_ba4f3_100 : decode cJ6_getChars_ba4f3 100 = .ok (.iload_n 0, 1) := by decide +kernel
theorem dJ6_getChars_ba4f3_101 : decode cJ6_getChars_ba4f3 101 = .ok (.ineg, 1) := by decide +kernel
theorem dJ6_getChars_ba4f3_102 : decode cJ6_getChars_ba4f3 102 = .ok (.baload, 1) := by decide +kernel
theorem dJ6_getChars_ba4f3_103 : decode cJ6_getChars_ba4f3 103 = .ok (.bastore, 1) := by decide +kernel
theorem dJ6_getChars_ba4f3_104 : decode cJ6_getChars_ba4f3 104 = .ok (.iload 6, 2) := by decide +kernel
theorem dJ6_getChars_ba4f3_106 : decode cJ6_getChars_ba4f3 106 = .ok (.ifCond .eq 12, 3) := by decide +kernel
theorem dJ6_getChars_ba4f3_109 : decode cJ6_getChars_ba4f3 109 = .ok (.aload_n 2, 1) := by decide +kernel
theorem dJ6_getChars_ba4f3_110 : decode cJ6_getChars_ba4f3 110 = .ok (.iinc 5 (-1), 3) := by decide +kernel
theorem dJ6_getChars_ba4f3_113 : decode cJ6_getChars_ba4f3 113 = .ok (.iload 5, 2) := by decide +kernel
theorem dJ6_getChars_ba4f3_115 : decode cJ6_getChars_ba4f3 115 = .ok (.bipush 45, 2) := by decide +kernel
theorem dJ6_getChars_ba4f3_117 : decode cJ6_getChars_ba4f3 117 = .ok (.bastore, 1) := by decide +kernel
theorem dJ6_getChars_ba4f3_118 : decode cJ6_getChars_ba4f3 118 = .ok (.iload 5, 2) := by decide +kernel
theorem dJ6_getChars_ba4f3_120 : decode cJ6_getChars_ba4f3 120 = .ok (.ireturn, 1) := by decide +kernel
theorem dJ6_stringSize_0f7a4_0 : decode cJ6_stringSize_0f7a4 0 = .ok (.iconst 1, 1) := by decide +kernel
theorem dJ6_stringSize_0f7a4_1 : decode cJ6_stringSize_0f7a4 1 = .ok (.istore_n 1, 1) := by decide +kernel
theorem dJ6_stringSize_0f7a4_2 : decode cJ6_stringSize_0f7a4 2 = .ok (.iload_n 0, 1) := by decide +kernel
theorem dJ6_stringSize_0f7a4_3 : decode cJ6_stringSize_0f7a4 3 = .ok (.ifCond .lt 8, 3) := by decide +kernel
theorem dJ6_stringSize_0f7a4_6 : decode cJ6_stringSize_0f7a4 6 = .ok (.iconst 0, 1) := by decide +kernel
theorem dJ6_stringSize_0f7a4_7 : decode cJ6_stringSize_0f7a4 7 = .ok (.istore_n 1, 1) := by decide +kernel
theorem dJ6_stringSize_0f7a4_8 : decode cJ6_stringSize_0f7a4 8 = .ok (.iload_n 0, 1) := by decide +kernel
theorem dJ6_stringSize_0f7a4_9 : decode cJ6_stringSize_0f7a4 9 = .ok (.ineg, 1) := by decide +kernel
theorem dJ6_stringSize_0f7a4_10 : decode cJ6_stringSize_0f7a4 10 = .ok (.istore_n 0, 1) := by decide +kernel
theorem dJ6_stringSize_0f7a4_11 : decode cJ6_stringSize_0f7a4 11 = .ok (.bipush (-10), 2) := by decide +kernel
theorem dJ6_stringSize_0f7a4_13 : decode cJ6_stringSize_0f7a4 13 = .ok (.istore_n 2, 1) := by decide +kernel
theorem dJ6_stringSize_0f7a4_14 : decode cJ6_stringSize_0f7a4 14 = .ok (.iconst 1, 1) := by decide +kernel
theorem dJ6_stringSize_0f7a4_15 : decode cJ6_stringSize_0f7a4 15 = .ok (.istore_n 3, 1) := by decide +kernel
theorem dJ6_stringSize_0f7a4_16 : decode cJ6_stringSize_0f7a4 16 = .ok (.iload_n 3, 1) := by decide +kernel
theorem dJ6_stringSize_0f7a4_17 : decode cJ6_stringSize_0f7a4 17 = .ok (.bipush 10, 2) := by decide +kernel
theorem dJ6_stringSize_0f7a4_19 : decode cJ6_stringSize_0f7a4 19 = .ok (.if_icmp .ge 23, 3) := by decide +kernel
theorem dJ6_stringSize_0f7a4_22 : decode cJ6_stringSize_0f7a4 22 = .ok (.iload_n 0, 1) := by decide +kernel
theorem dJ6_stringSize_0f7a4_23 : decode cJ6_stringSize_0f7a4 23 = .ok (.iload_n 2, 1) := by decide +kernel
theorem dJ6_stringSize_0f7a4_24 : decode cJ6_stringSize_0f7a4 24 = .ok (.if_icmp .le 7, 3) := by decide +kernel
theorem dJ6_stringSize_0f7a4_27 : decode cJ6_stringSize_0f7a4 27 = .ok (.iload_n 3, 1) := by decide +kernel
theorem dJ6_stringSize_0f7a4_28 : decode cJ6_stringSize_0f7a4 28 = .ok (.iload_n 1, 1) := by decide +kernel
theorem dJ6_stringSize_0f7a4_29 : decode cJ6_stringSize_0f7a4 29 = .ok (.iadd, 1) := by decide +kernel
theorem dJ6_stringSize_0f7a4_30 : decode cJ6_stringSize_0f7a4 30 = .ok (.ireturn, 1) := by decide +kernel
theorem dJ6_stringSize_0f7a4_31 : decode cJ6_stringSize_0f7a4 31 = .ok (.bipush 10, 2) := by decide +kernel
theorem dJ6_stringSize_0f7a4_33 : decode cJ6_stringSize_0f7a4 33 = .ok (.iload_n 2, 1) := by decide +kernel
theorem dJ6_stringSize_0f7a4_34 : decode cJ6_stringSize_0f7a4 34 = .ok (.imul, 1) := by decide +kernel
theorem dJ6_stringSize_0f7a4_35 : decode cJ6_stringSize_0f7a4 35 = .ok (.istore_n 2, 1) := by decide +kernel
theorem dJ6_stringSize_0f7a4_36 : decode cJ6_stringSize_0f7a4 36 = .ok (.iinc 3 1, 3) := by decide +kernel
theorem dJ6_stringSize_0f7a4_39 : decode cJ6_stringSize_0f7a4 39 = .ok (.goto (-23), 3) := by decide +kernel
theorem dJ6_stringSize_0f7a4_42 : decode cJ6_stringSize_0f7a4 42 = .ok (.bipush 10, 2) := by decide +kernel
theorem dJ6_stringSize_0f7a4_44 : decode cJ6_stringSize_0f7a4 44 = .ok (.iload_n 1, 1) := by decide +kernel
theorem dJ6_stringSize_0f7a4_45 : decode cJ6_stringSize_0f7a4 45 = .ok (.iadd, 1) := by decide +kernel
theorem dJ6_stringSize_0f7a4_46 : decode cJ6_stringSize_0f7a4 46 = .ok (.ireturn, 1) := by decide +kernel
theorem dJ9_floorDiv_f86c9_0 : decode cJ9_floorDiv_f86c9 0 = .ok (.lload_n 0, 1) := by decide +kernel
theorem dJ9_floorDiv_f86c9_1 : decode cJ9_floorDiv_f86c9 1 = .ok (.lload_n 2, 1) := by decide +kernel
theorem dJ9_floorDiv_f86c9_2 : decode cJ9_floorDiv_f86c9 2 = .ok (.ldiv, 1) := by decide +kernel
theorem dJ9_floorDiv_f86c9_3 : decode cJ9_floorDiv_f86c9 3 = .ok (.lstore 4, 2) := by decide +kernel
theorem dJ9_floorDiv_f86c9_5 : decode cJ9_floorDiv_f86c9 5 = .ok (.lload_n 0, 1) := by decide +kernel
theorem dJ9_floorDiv_f86c9_6 : decode cJ9_floorDiv_f86c9 6 = .ok (.lload_n 2, 1) := by decide +kernel
theorem dJ9_floorDiv_f86c9_7 : decode cJ9_floorDiv_f86c9 7 = .ok (.lxor, 1) := by decide +kernel
theorem dJ9_floorDiv_f86c9_8 : decode cJ9_floorDiv_f86c9 8 = .ok (.lconst 0, 1) := by decide +kernel
theorem dJ9_floorDiv_f86c9_9 : decode cJ9_floorDiv_f86c9 9 = .ok (.lcmp, 1) := by decide +kernel
theorem dJ9_floorDiv_f86c9_10 : decode cJ9_floorDiv_f86c9 10 = .ok (.ifCond .ge 17, 3) := by decide +kernel
theorem dJ9_floorDiv_f86c9_13 : decode cJ9_floorDiv_f86c9 13 = .ok (.lload 4, 2) := by decide +kernel
theorem dJ9_floorDiv_f86c9_15 : decode cJ9_floorDiv_f86c9 15 = .ok (.lload_n 2, 1) := by decide +kernel
theorem dJ9_floorDiv_f86c9_16 : decode cJ9_floorDiv_f86c9 16 = .ok (.lmul, 1) := by decide +kernel
theorem dJ9_floorDiv_f86c9_17 : decode cJ9_floorDiv_f86c9 17 = .ok (.lload_n 0, 1) := by decide +kernel
theorem dJ9_floorDiv_f86c9_18 : decode cJ9_floorDiv_f86c9 18 = .ok (.lcmp, 1) := by decide +kernel
theorem dJ9_floorDiv_f86c9_19 : decode cJ9_floorDiv_f86c9 19 = .ok (.ifCond .eq 8, 3) := by decide +kernel
theorem dJ9_floorDiv_f86c9_22 : decode cJ9_floorDiv_f86c9 22 = .ok (.lload 4, 2) := by decide +kernel
theorem dJ9_floorDiv_f86c9_24 : decode cJ9_floorDiv_f86c9 24 = .ok (.lconst 1, 1) := by decide +kernel
theorem dJ9_floorDiv_f86c9_25 : decode cJ9_floorDiv_f86c9 25 = .ok (.lsub, 1) := by decide +kernel
theorem dJ9_floorDiv_f86c9_26 : decode cJ9_floorDiv_f86c9 26 = .ok (.lreturn, 1) := by decide +kernel
theorem dJ9_floorDiv_f86c9_27 : decode cJ9_floorDiv_f86c9 27 = .ok (.lload 4, 2) := by decide +kernel
theorem dJ9_floorDiv_f86c9_29 : decode cJ9_floorDiv_f86c9 29 = .ok (.lreturn, 1) := by decide +kernel
theorem dJ9_max_7cf53_0 : decode cJ9_max_7cf53 0 = .ok (.iload_n 0, 1) := by decide +kernel
theorem dJ9_max_7cf53_1 : decode cJ9_max_7cf53 1 = .ok (.iload_n 1, 1) := by decide +kernel
theorem dJ9_max_7cf53_2 : decode cJ9_max_7cf53 2 = .ok (.if_icmp .lt 7, 3) := by decide +kernel
theorem dJ9_max_7cf53_5 : decode cJ9_max_7cf53 5 = .ok (.iload_n 0, 1) := by decide +kernel
theorem dJ9_max_7cf53_6 : decode cJ9_max_7cf53 6 = .ok (.goto 4, 3) := by decide +kernel
theorem dJ9_max_7cf53_9 : decode cJ9_max_7cf53 9 = .ok (.iload_n 1, 1) := by decide +kernel
theorem dJ9_max_7cf53_10 : decode cJ9_max_7cf53 10 = .ok (.ireturn, 1) := by decide +kernel
theorem dJ9_max_f86c9_0 : decode cJ9_max_f86c9 0 = .ok (.lload_n 0, 1) := by decide +kernel
theorem dJ9_max_f86c9_1 : decode cJ9_max_f86c9 1 = .ok (.lload_n 2, 1) := by decide +kernel
theorem dJ9_max_f86c9_2 : decode cJ9_max_f86c9 2 = .ok (.lcmp, 1) := by decide +kernel
theorem dJ9_max_f86c9_3 : decode cJ9_max_f86c9 3 = .ok (.ifCond .lt 7, 3) := by decide +kernel
theorem dJ9_max_f86c9_6 : decode cJ9_max_f86c9 6 = .ok (.lload_n 0, 1) := by decide +kernel
theorem dJ9_max_f86c9_7 : decode cJ9_max_f86c9 7 = .ok (.goto 4, 3) := by decide +kernel
theorem dJ9_max_f86c9_10 : decode cJ9_max_f86c9 10 = .ok (.lload_n 2, 1) := by decide +kernel
theorem dJ9_max_f86c9_11 : decode cJ9_max_f86c9 11 = .ok (.lreturn, 1) := by decide +kernel
theorem dJ9_min_7cf53_0 : decode cJ9_min_7cf53 0 = .ok (.iload_n 0, 1) := by decide +kernel
theorem dJ9_min_7cf53_1 : decode cJ9_min_7cf53 1 = .ok (.iload_n 1, 1) := by decide +kernel
theorem dJ9_min_7cf53_2 : decode cJ9_min_7cf53 2 = .ok (.if_icmp .gt 7, 3) := by decide +kernel
theorem dJ9_min_7cf53_5 : decode cJ9_min_7cf53 5 = .ok (.iload_n 0, 1) := by decide +kernel
theorem dJ9_min_7cf53_6 : decode cJ9_min_7cf53 6 = .ok (.goto 4, 3) := by decide +kernel
theorem dJ9_min_7cf53_9 : decode cJ9_min_7cf53 9 = .ok (.iload_n 1, 1) := by decide +kernel
theorem dJ9_min_7cf53_10 : decode cJ9_min_7cf53 10 = .ok (.ireturn, 1) := by decide +kernel
theorem dJ9_min_f86c9_0 : decode cJ9_min_f86c9 0 = .ok (.lload_n 0, 1) := by decide +kernel
theorem dJ9_min_f86c9_1 : decode cJ9_min_f86c9 1 = .ok (.lload_n 2, 1) := by decide +kernel
theorem dJ9_min_f86c9_2 : decode cJ9_min_f86c9 2 = .ok (.lcmp, 1) := by decide +kernel
theorem dJ9_min_f86c9_3 : decode cJ9_min_f86c9 3 = .ok (.ifCond .gt 7, 3) := by decide +kernel
theorem dJ9_min_f86c9_6 : decode cJ9_min_f86c9 6 = .ok (.lload_n 0, 1) := by decide +kernel
theorem dJ9_min_f86c9_7 : decode cJ9_min_f86c9 7 = .ok (.goto 4, 3) := by decide +kernel
theorem dJ9_min_f86c9_10 : decode cJ9_min_f86c9 10 = .ok (.lload_n 2, 1) := by decide +kernel
theorem dJ9_min_f86c9_11 : decode cJ9_min_f86c9 11 = .ok (.lreturn, 1) := by decide +kernel
theorem dJ0_init_81219_0 : decode cJ0_init_81219 0 = .ok (.aload_n 0, 1) := by decide +kernel
theorem dJ0_init_81219_1 : decode cJ0_init_81219 1 = .ok (.aload_n 1, 1) := by decide +kernel
theorem dJ0_init_81219_2 : decode cJ0_init_81219 2 = .ok (.aconst_null, 1) := by decide +kernel
theorem dJ0_init_81219_3 : decode cJ0_init_81219 3 = .ok (.invokespecial 489, 3) := by decide +kernel
theorem dJ0_init_81219_6 : decode cJ0_init_81219 6 = .ok (.return_, 1) := by decide +kernel
theorem dJ0_length_8abf5_0 : decode cJ0_length_8abf5 0 = .ok (.aload_n 0, 1) := by decide +kernel
theorem dJ0_length_8abf5_1 : decode cJ0_length_8abf5 1 = .ok (.getfield 9, 3) := by decide +kernel
theorem dJ0_length_8abf5_4 : decode cJ0_length_8abf5 4 = .ok (.arraylength, 1) := by decide +kernel
theorem dJ0_length_8abf5_5 : decode cJ0_length_8abf5 5 = .ok (.aload_n 0, 1) := by decide +kernel
theorem dJ0_length_8abf5_6 : decode cJ0_length_8abf5 6 = .ok (.invokevirtual 335, 3) := by decide +kernel
theorem dJ0_length_8abf5_9 : decode cJ0_length_8abf5 9 = .ok (.ishr, 1) := by decide +kernel
theorem dJ0_length_8abf5_10 : decode cJ0_length_8abf5 10 = .ok (.ireturn, 1) := by decide +kernel
theorem dJ0_charAt_5068e_0 : decode cJ0_charAt_5068e 0 = .ok (.aload_n 0, 1) := by decide +kernel
theorem dJ0_charAt_5068e_1 : decode cJ0_charAt_5068e 1 = .ok (.invokevirtual 492, 3) := by decide +kernel
theorem dJ0_charAt_5068e_4 : decode cJ0_charAt_5068e 4 = .ok (.ifCond .eq 12, 3) := by decide +kernel
theorem dJ0_charAt_5068e_7 : decode cJ0_charAt_5068e 7 = .ok (.aload_n 0, 1) := by decide +kernel
theorem dJ0_charAt_5068e_8 : decode cJ0_charAt_5068e 8 = .ok (.getfield 9, 3) := by decide +kernel
theorem dJ0_charAt_5068e_11 : decode cJ0_charAt_5068e 11 = .ok (.iload_n 1, 1) := by decide +kernel
theorem dJ0_charAt_5068e_12 : decode cJ0_charAt_5068e 12 = .ok (.invokestatic 495, 3) := by decide +kernel
theorem dJ0_charAt_5068e_15 : decode cJ0_charAt_5068e 15 = .ok (.ireturn, 1) := by decide +kernel
theorem dJ0_charAt_5068e_16 : decode cJ0_charAt_5068e 16 = .ok (.aload_n 0, 1) := by decide +kernel
theorem dJ0_charAt_5068e_17 : decode cJ0_charAt_5068e 17 = .ok (.getfield 9, 3) := by decide +kernel
theorem dJ0_charAt_5068e_20 : decode cJ0_charAt_5068e 20 = .ok (.iload_n 1, 1) := by decide +kernel
theorem dJ0_charAt_5068e_21 : decode cJ0_charAt_5068e 21 = .ok (.invokestatic 498, 3) := by decide +kernel
theorem dJ0_charAt_5068e_24 : decode cJ0_charAt_5068e 24 = .ok (.ireturn, 1) := by decide +kernel
theorem dJ0_getBytes_840e7_0 : decode cJ0_getBytes_840e7 0 = .ok (.aload_n 0, 1) := by decide +kernel
theorem dJ0_getBytes_840e7_1 : decode cJ0_getBytes_840e7 1 = .ok (.invokevirtual 335, 3) := by decide +kernel
theorem dJ0_getBytes_840e7_4 : decode cJ0_getBytes_840e7 4 = .ok (.iload_n 3, 1) := by decide +kernel
theorem dJ0_getBytes_840e7_5 : decode cJ0_getBytes_840e7 5 = .ok (.if_icmp .ne 23, 3) := by decide +kernel
theorem dJ0_getBytes_840e7_8 : decode cJ0_getBytes_840e7 8 = .ok (.aload_n 0, 1) := by decide +kernel
theorem dJ0_getBytes_840e7_9 : decode cJ0_getBytes_840e7 9 = .ok (.getfield 9, 3) := by decide +kernel
theorem dJ0_getBytes_840e7_12 : decode cJ0_getBytes_840e7 12 = .ok (.iconst 0, 1) := by decide +kernel
theorem dJ0_getBytes_840e7_13 : decode cJ0_getBytes_840e7 13 = .ok (.aload_n 1, 1) := by decide +kernel
theorem dJ0_getBytes_840e7_14 : decode cJ0_getBytes_840e7 14 = .ok (.iload_n 2, 1) := by decide +kernel
theorem dJ0_getBytes_840e7_15 : decode cJ0_getBytes_840e7 15 = .ok (.iload_n 3, 1) := by decide +kernel
theorem dJ0_getBytes_840e7_16 : decode cJ0_getBytes_840e7 16 = .ok (.ishl, 1) := by decide +kernel
theorem dJ0_getBytes_840e7_17 : decode cJ0_getBytes_840e7 17 = .ok (.aload_n 0, 1) := by decide +kernel
theorem dJ0_getBytes_840e7_18 : decode cJ0_getBytes_840e7 18 = .ok (.getfield 9, 3) := by decide +kernel
theorem dJ0_getBytes_840e7_21 : decode cJ0_getBytes_840e7 21 = .ok (.arraylength, 1) := by decide +kernel
theorem dJ0_getBytes_840e7_22 : decode cJ0_getBytes_840e7 22 = .ok (.invokestatic 212, 3) := by decide +kernel
theorem dJ0_getBytes_840e7_25 : decode cJ0_getBytes_840e7 25 = .ok (.goto 18, 3) := by decide +kernel
theorem dJ0_getBytes_840e7_28 : decode cJ0_getBytes_840e7 28 = .ok (.aload_n 0, 1) := by decide +kernel
theorem dJ0_getBytes_840e7_29 : decode cJ0_getBytes_840e7 29 = .ok (.getfield 9, 3) := by decide +kernel
theorem dJ0_getBytes_840e7_32 : decode cJ0_getBytes_840e7 32 = .ok (.iconst 0, 1) := by decide +kernel
theorem dJ0_getBytes_840e7_33 : decode cJ0_getBytes_840e7 33 = .ok (.aload_n 1, 1) := by decide +kernel
theorem dJ0_getBytes_840e7_34 : decode cJ0_getBytes_840e7 34 = .ok (.iload_n 2, 1) := by decide +kernel
theorem dJ0_getBytes_840e7_35 : decode cJ0_getBytes_840e7 35 = .ok (.aload_n 0, 1) := by decide +kernel
theorem dJ0_getBytes_840e7_36 : decode cJ0_getBytes_840e7 36 = .ok (.getfield 9, 3) := by decide +kernel
theorem dJ0_getBytes_840e7_39 : decode cJ0_getBytes_840e7 39 = .ok (.arraylength, 1) := by decide +kernel
theorem dJ0_getBytes_840e7_40 : decode cJ0_getBytes_840e7 40 = .ok (.invokestatic 106, 3) := by decide +kernel
theorem dJ0_getBytes_840e7_43 : decode cJ0_getBytes_840e7 43 = .ok (.return_, 1) := by decide +kernel
theorem dJ0_init_db425_0 : decode cJ0_init_db425 0 = .ok (.aload_n 0, 1) := by decide +kernel
theorem dJ0_init_db425_1 : decode cJ0_init_db425 1 = .ok (.invokespecial 1, 3) := by decide +kernel
theorem dJ0_init_db425_4 : decode cJ0_init_db425 4 = .ok (.aload_n 1, 1) := by decide +kernel
theorem dJ0_init_db425_5 : decode cJ0_init_db425 5 = .ok (.invokevirtual 552, 3) := by decide +kernel
theorem dJ0_init_db425_8 : decode cJ0_init_db425 8 = .ok (.astore_n 3, 1) := by decide +kernel
theorem dJ0_init_db425_9 : decode cJ0_init_db425 9 = .ok (.aload_n 1, 1) := by decide +kernel
theorem dJ0_init_db425_10 : decode cJ0_init_db425 10 = .ok (.invokevirtual 549, 3) := by decide +kernel
theorem dJ0_init_db425_13 : decode cJ0_init_db425 13 = .ok (.istore 4, 2) := by decide +kernel
theorem dJ0_init_db425_15 : decode cJ0_init_db425 15 = .ok (.aload_n 1, 1) := by decide +kernel
theorem dJ0_init_db425_16 : decode cJ0_init_db425 16 = .ok (.invokevirtual 1047, 3) := by decide +kernel
theorem dJ0_init_db425_19 : decode cJ0_init_db425 19 = .ok (.ifCond .eq 22, 3) := by decide +kernel
theorem dJ0_init_db425_22 : decode cJ0_init_db425 22 = .ok (.aload_n 0, 1) := by decide +kernel
theorem dJ0_init_db425_23 : decode cJ0_init_db425 23 = .ok (.iconst 0, 1) := by decide +kernel
theorem dJ0_init_db425_24 : decode cJ0_init_db425 24 = .ok (.putfield 15, 3) := by decide +kernel
theorem dJ0_init_db425_27 : decode cJ0_init_db425 27 = .ok (.aload_n 0, 1) := by decide +kernel
theorem dJ0_init_db425_28 : decode cJ0_init_db425 28 = .ok (.aload_n 3, 1) := by decide +kernel
theorem dJ0_init_db425_29 : decode cJ0_init_db425 29 = .ok (.iconst 0, 1) := by decide +kernel
theorem dJ0_init_db425_30 : decode cJ0_init_db425 30 = .ok (.iload 4, 2) := by decide +kernel
theorem dJ0_init_db425_32 : decode cJ0_init_db425 32 = .ok (.invokestatic 54, 3) := by decide +kernel
theorem dJ0_init_db425_35 : decode cJ0_init_db425 35 = .ok (.putfield 9, 3) := by decide +kernel
theorem dJ0_init_db425_38 : decode cJ0_init_db425 38 = .ok (.goto 59, 3) := by decide +kernel
theorem dJ0_init_db425_41 : decode cJ0_init_db425 41 = .ok (.getstatic 38, 3) := by decide +kernel
theorem dJ0_init_db425_44 : decode cJ0_init_db425 44 = .ok (.ifCond .eq 35, 3) := by decide +kernel
theorem dJ0_init_db425_47 : decode cJ0_init_db425 47 = .ok (.aload_n 1, 1) := by decide +kernel
theorem dJ0_init_db425_48 : decode cJ0_init_db425 48 = .ok (.getfield 1048, 3) := by decide +kernel
theorem dJ0_init_db425_51 : decode cJ0_init_db425 51 = .ok (.ifCond .eq 28, 3) := by decide +kernel
theorem dJ0_init_db425_54 : decode cJ0_init_db425 54 = .ok (.aload_n 0, 1) := by decide +kernel
theorem dJ0_init_db425_55 : decode cJ0_init_db425 55 = .ok (.aload_n 3, 1) := by decide +kernel
theorem dJ0_init_db425_56 : decode cJ0_init_db425 56 = .ok (.iconst 0, 1) := by decide +kernel
theorem dJ0_init_db425_57 : decode cJ0_init_db425 57 = .ok (.iload 4, 2) := by decide +kernel
theorem dJ0_init_db425_59 : decode cJ0_init_db425 59 = .ok (.invokestatic 1051, 3) := by decide +kernel
theorem dJ0_init_db425_62 : decode cJ0_init_db425 62 = .ok (.putfield 9, 3) := by decide +kernel
theorem dJ0_init_db425_65 : decode cJ0_init_db425 65 = .ok (.aload_n 0, 1) := by decide +kernel
theorem dJ0_init_db425_66 : decode cJ0_init_db425 66 = .ok (.aload_n 0, 1) := by decide +kernel
theorem dJ0_init_db425_67 : decode cJ0_init_db425 67 = .ok (.getfield 9, 3) := by decide +kernel
theorem dJ0_init_db425_70 : decode cJ0_init_db425 70 = .ok (.iload 4, 2) := by decide +kernel
theorem dJ0_init_db425_72 : decode cJ0_init_db425 72 = .ok (.invokestatic 47, 3) := by decide +kernel
theorem dJ0_init_db425_75 : decode cJ0_init_db425 75 = .ok (.putfield 15, 3) := by decide +kernel
theorem dJ0_init_db425_78 : decode cJ0_init_db425 78 = .ok (.return_, 1) := by decide +kernel
theorem dJ0_init_db425_79 : decode cJ0_init_db425 79 = .ok (.aload_n 0, 1) := by decide +kernel
theorem dJ0_init_db425_80 : decode cJ0_init_db425 80 = .ok (.iconst 1, 1) := by decide +kernel
theorem dJ0_init_db425_81 : decode cJ0_init_db425 81 = .ok (.putfield 15, 3) := by decide +kernel
theorem dJ0_init_db425_84 : decode cJ0_init_db425 84 = .ok (.aload_n 0, 1) := by decide +kernel
theorem dJ0_init_db425_85 : decode cJ0_init_db425 85 = .ok (.aload_n 3, 1) := by decide +kernel
theorem dJ0_init_db425_86 : decode cJ0_init_db425 86 = .ok (.iconst 0, 1) := by decide +kernel
theorem dJ0_init_db425_87 : decode cJ0_init_db425 87 = .ok (.iload 4, 2) := by decide +kernel
theorem dJ0_init_db425_89 : decode cJ0_init_db425 89 = .ok (.iconst 1, 1) := by decide +kernel
theorem dJ0_init_db425_90 : decode cJ0_init_db425 90 = .ok (.ishl, 1) := by decide +kernel
theorem dJ0_init_db425_91 : decode cJ0_init_db425 91 = .ok (.invokestatic 54, 3) := by decide +kernel
theorem dJ0_init_db425_94 : decode cJ0_init_db425 94 = .ok (.putfield 9, 3) := by decide +kernel
theorem dJ0_init_db425_97 : decode cJ0_init_db425 97 = .ok (.return_, 1) := by decide +kernel
theorem dJ0_coder_7d493_0 : decode cJ0_coder_7d493 0 = .ok (.getstatic 38, 3) := by decide +kernel
theorem dJ0_coder_7d493_3 : decode cJ0_coder_7d493 3 = .ok (.ifCond .eq 10, 3) := by decide +kernel
theorem dJ0_coder_7d493_6 : decode cJ0_coder_7d493 6 = .ok (.aload_n 0, 1) := by decide +kernel
theorem dJ0_coder_7d493_7 : decode cJ0_coder_7d493 7 = .ok (.getfield 15, 3) := by decide +kernel
theorem dJ0_coder_7d493_10 : decode cJ0_coder_7d493 10 = .ok (.goto 4, 3) := by decide +kernel
theorem dJ0_coder_7d493_13 : decode cJ0_coder_7d493 13 = .ok (.iconst 1, 1) := by decide +kernel
theorem dJ0_coder_7d493_14 : decode cJ0_coder_7d493 14 = .ok (.ireturn, 1) := by decide +kernel
theorem dJ0_isLatin1_aae02_0 : decode cJ0_isLatin1_aae02 0 = .ok (.getstatic 38, 3) := by decide +kernel
theorem dJ0_isLatin1_aae02_3 : decode cJ0_isLatin1_aae02 3 = .ok (.ifCond .eq 14, 3) := by decide +kernel
theorem dJ0_isLatin1_aae02_6 : decode cJ0_isLatin1_aae02 6 = .ok (.aload_n 0, 1) := by decide +kernel
theorem dJ0_isLatin1_aae02_7 : decode cJ0_isLatin1_aae02 7 = .ok (.getfield 15, 3) := by decide +kernel
theorem dJ0_isLatin1_aae02_10 : decode cJ0_isLatin1_aae02 10 = .ok (.ifCond .ne 7, 3) := by decide +kernel
theorem dJ0_isLatin1_aae02_13 : decode cJ0_isLatin1_aae02 13 = .ok (.iconst 1, 1) := by decide +kernel
theorem dJ0_isLatin1_aae02_14 : decode cJ0_isLatin1_aae02 14 = .ok (.goto 4, 3) := by decide +kernel
theorem dJ0_isLatin1_aae02_17 : decode cJ0_isLatin1_aae02 17 = .ok (.iconst 0, 1) := by decide +kernel
theorem dJ0_isLatin1_aae02_18 : decode cJ0_isLatin1_aae02 18 = .ok (.ireturn, 1) := by decide +kernel
theorem dJ0_checkIndex_df160_0 : decode cJ0_checkIndex_df160 0 = .ok (.iload_n 0, 1) := by decide +kernel
theorem dJ0_checkIndex_df160_1 : decode cJ0_checkIndex_df160 1 = .ok (.iload_n 1, 1) := by decide +kernel
theorem dJ0_checkIndex_df160_2 : decode cJ0_checkIndex_df160 2 = .ok (.getstatic 1053, 3) := by decide +kernel
theorem dJ0_checkIndex_df160_5 : decode cJ0_checkIndex_df160 5 = .ok (.invokestatic 1059, 3) := by decide +kernel
theorem dJ0_checkIndex_df160_8 : decode cJ0_checkIndex_df160 8 = .ok (.pop, 1) := by decide +kernel
theorem dJ0_checkIndex_df160_9 : decode cJ0_checkIndex_df160 9 = .ok (.return_, 1) := by decide +kernel
theorem dJ0_checkBoundsOffCount_cabcc_0 : decode cJ0_checkBoundsOffCount_cabcc 0 = .ok (.iload_n 0, 1) := by decide +kernel
theorem dJ0_checkBoundsOffCount_cabcc_1 : decode cJ0_checkBoundsOffCount_cabcc 1 = .ok (.iload_n 1, 1) := by decide +kernel
theorem dJ0_checkBoundsOffCount_cabcc_2 : decode cJ0_checkBoundsOffCount_cabcc 2 = .ok (.iload_n 2, 1) := by decide +kernel
theorem dJ0_checkBoundsOffCount_cabcc_3 : decode cJ0_checkBoundsOffCount_cabcc 3 = .ok (.getstatic 1053, 3) := by decide +kernel
theorem dJ0_checkBoundsOffCount_cabcc_6 : decode cJ0_checkBoundsOffCount_cabcc 6 = .ok (.invokestatic 1065, 3) := by decide +kernel
theorem dJ0_checkBoundsOffCount_cabcc_9 : decode cJ0_checkBoundsOffCount_cabcc 9 = .ok (.ireturn, 1) := by decide +kernel
theorem dJ0_checkBoundsBeginEnd_23922_0 : decode cJ0_checkBoundsBeginEnd_23922 0 = .ok (.iload_n 0, 1) := by decide +kernel
theorem dJ0_checkBoundsBeginEnd_23922_1 : decode cJ0_checkBoundsBeginEnd_23922 1 = .ok (.iload_n 1, 1) := by decide +kernel
theorem dJ0_checkBoundsBeginEnd_23922_2 : decode cJ0_checkBoundsBeginEnd_23922 2 = .ok (.iload_n 2, 1) := by decide +kernel
theorem dJ0_checkBoundsBeginEnd_23922_3 : decode cJ0_checkBoundsBeginEnd_23922 3 = .ok (.getstatic 1053, 3) := by decide +kernel
theorem dJ0_checkBoundsBeginEnd_23922_6 : decode cJ0_checkBoundsBeginEnd_23922 6 = .ok (.invokestatic 1062, 3) := by decide +kernel
theorem dJ0_checkBoundsBeginEnd_23922_9 : decode cJ0_checkBoundsBeginEnd_23922 9 = .ok (.pop, 1) := by decide +kernel
theorem dJ0_checkBoundsBeginEnd_23922_10 : decode cJ0_checkBoundsBeginEnd_23922 10 = .ok (.return_, 1) := by decide +kernel
theorem dJ4_init_da8c8_0 : decode cJ4_init_da8c8 0 = .ok (.aload_n 0, 1) := by decide +kernel
theorem dJ4_init_da8c8_1 : decode cJ4_init_da8c8 1 = .ok (.bipush 16, 2) := by decide +kernel
theorem dJ4_init_da8c8_3 : decode cJ4_init_da8c8 3 = .ok (.invokespecial 1, 3) := by decide +kernel
theorem dJ4_init_da8c8_6 : decode cJ4_init_da8c8 6 = .ok (.return_, 1) := by decide +kernel
theorem dJ4_append_15ec4_0 : decode cJ4_append_15ec4 0 = .ok (.aload_n 0, 1) := by decide +kernel
theorem dJ4_append_15ec4_1 : decode cJ4_append_15ec4 1 = .ok (.aload_n 1, 1) := by decide +kernel
theorem dJ4_append_15ec4_2 : decode cJ4_append_15ec4 2 = .ok (.invokespecial 29, 3) := by decide +kernel
theorem dJ4_append_15ec4_5 : decode cJ4_append_15ec4 5 = .ok (.pop, 1) := by decide +kernel
theorem dJ4_append_15ec4_6 : decode cJ4_append_15ec4 6 = .ok (.aload_n 0, 1) := by decide +kernel
theorem dJ4_append_15ec4_7 : decode cJ4_append_15ec4 7 = .ok (.areturn, 1) := by decide +kernel
theorem dJ4_append_cf468_0 : decode cJ4_append_cf468 0 = .ok (.aload_n 0, 1) := by decide +kernel
theorem dJ4_append_cf468_1 : decode cJ4_append_cf468 1 = .ok (.iload_n 1, 1) := by decide +kernel
theorem dJ4_append_cf468_2 : decode cJ4_append_cf468 2 = .ok (.invokespecial 50, 3) := by decide +kernel
theorem dJ4_append_cf468_5 : decode cJ4_append_cf468 5 = .ok (.pop, 1) := by decide +kernel
theorem dJ4_append_cf468_6 : decode cJ4_append_cf468 6 = .ok (.aload_n 0, 1) := by decide +kernel
theorem dJ4_append_cf468_7 : decode cJ4_append_cf468 7 = .ok (.areturn, 1) := by decide +kernel
theorem dJ4_append_bf812_0 : decode cJ4_append_bf812 0 = .ok (.aload_n 0, 1) := by decide +kernel
theorem dJ4_append_bf812_1 : decode cJ4_append_bf812 1 = .ok (.iload_n 1, 1) := by decide +kernel
theorem dJ4_append_bf812_2 : decode cJ4_append_bf812 2 = .ok (.invokespecial 53, 3) := by decide +kernel
theorem dJ4_append_bf812_5 : decode cJ4_append_bf812 5 = .ok (.pop, 1) := by decide +kernel
theorem dJ4_append_bf812_6 : decode cJ4_append_bf812 6 = .ok (.aload_n 0, 1) := by decide +kernel
theorem dJ4_append_bf812_7 : decode cJ4_append_bf812 7 = .ok (.areturn, 1) := by decide +kernel
theorem dJ4_toString_0e30d_0 : decode cJ4_toString_0e30d 0 = .ok (.new 18, 3) := by decide +kernel
theorem dJ4_toString_0e30d_3 : decode cJ4_toString_0e30d 3 = .ok (.dup, 1) := by decide +kernel
theorem dJ4_toString_0e30d_4 : decode cJ4_toString_0e30d 4 = .ok (.aload_n 0, 1) := by decide +kernel
theorem dJ4_toString_0e30d_5 : decode cJ4_toString_0e30d 5 = .ok (.invokespecial 137, 3) := by decide +kernel
theorem dJ4_toString_0e30d_8 : decode cJ4_toString_0e30d 8 = .ok (.areturn, 1) := by decide +kernel
theorem dJ4_length_8abf5_0 : decode cJ4_length_8abf5 0 = .ok (.aload_n 0, 1) := by decide +kernel
theorem dJ4_length_8abf5_1 : decode cJ4_length_8abf5 1 = .ok (.invokespecial 343, 3) := by decide +kernel
theorem dJ4_length_8abf5_4 : decode cJ4_length_8abf5 4 = .ok (.ireturn, 1) := by decide +kernel
theorem dJ1_charAt_3b067_0 : decode cJ1_charAt_3b067 0 = .ok (.iload_n 1, 1) := by decide +kernel
theorem dJ1_charAt_3b067_1 : decode cJ1_charAt_3b067 1 = .ok (.aload_n 0, 1) := by decide +kernel
theorem dJ1_charAt_3b067_2 : decode cJ1_charAt_3b067 2 = .ok (.arraylength, 1) := by decide +kernel
theorem dJ1_charAt_3b067_3 : decode cJ1_charAt_3b067 3 = .ok (.invokestatic 9, 3) := by decide +kernel
theorem dJ1_charAt_3b067_6 : decode cJ1_charAt_3b067 6 = .ok (.aload_n 0, 1) := by decide +kernel
theorem dJ1_charAt_3b067_7 : decode cJ1_charAt_3b067 7 = .ok (.iload_n 1, 1) := by decide +kernel
theorem dJ1_charAt_3b067_8 : decode cJ1_charAt_3b067 8 = .ok (.baload, 1) := by decide +kernel
theorem dJ1_charAt_3b067_9 : decode cJ1_charAt_3b067 9 = .ok (.sipush 255, 3) := by decide +kernel
theorem dJ1_charAt_3b067_12 : decode cJ1_charAt_3b067 12 = .ok (.iand, 1) := by decide +kernel
theorem dJ1_charAt_3b067_13 : decode cJ1_charAt_3b067 13 = .ok (.i2c, 1) := by decide +kernel
theorem dJ1_charAt_3b067_14 : decode cJ1_charAt_3b067 14 = .ok (.ireturn, 1) := by decide +kernel
theorem dJ1_canEncode_fc78d_0 : decode cJ1_canEncode_fc78d 0 = .ok (.iload_n 0, 1) := by decide +kernel
theorem dJ1_canEncode_fc78d_1 : decode cJ1_canEncode_fc78d 1 = .ok (.sipush 255, 3) := by decide +kernel
theorem dJ1_canEncode_fc78d_4 : decode cJ1_canEncode_fc78d 4 = .ok (.if_icmp .gt 7, 3) := by decide +kernel
theorem dJ1_canEncode_fc78d_7 : decode cJ1_canEncode_fc78d 7 = .ok (.iconst 1, 1) := by decide +kernel
theorem dJ1_canEncode_fc78d_8 : decode cJ1_canEncode_fc78d 8 = .ok (.goto 4, 3) := by decide +kernel
theorem dJ1_canEncode_fc78d_11 : decode cJ1_canEncode_fc78d 11 = .ok (.iconst 0, 1) := by decide +kernel
theorem dJ1_canEncode_fc78d_12 : decode cJ1_canEncode_fc78d 12 = .ok (.ireturn, 1) := by decide +kernel
theorem dJ1_inflate_0e8fd_0 : decode cJ1_inflate_0e8fd 0 = .ok (.aload_n 0, 1) := by decide +kernel
theorem dJ1_inflate_0e8fd_1 : decode cJ1_inflate_0e8fd 1 = .ok (.iload_n 1, 1) := by decide +kernel
theorem dJ1_inflate_0e8fd_2 : decode cJ1_inflate_0e8fd 2 = .ok (.aload_n 2, 1) := by decide +kernel
theorem dJ1_inflate_0e8fd_3 : decode cJ1_inflate_0e8fd 3 = .ok (.iload_n 3, 1) := by decide +kernel
theorem dJ1_inflate_0e8fd_4 : decode cJ1_inflate_0e8fd 4 = .ok (.iload 4, 2) := by decide +kernel
theorem dJ1_inflate_0e8fd_6 : decode cJ1_inflate_0e8fd 6 = .ok (.invokestatic 240, 3) := by decide +kernel
theorem dJ1_inflate_0e8fd_9 : decode cJ1_inflate_0e8fd 9 = .ok (.return_, 1) := by decide +kernel
theorem dJ2_newBytesFor_77867_0 : decode cJ2_newBytesFor_77867 0 = .ok (.iload_n 0, 1) := by decide +kernel
theorem dJ2_newBytesFor_77867_1 : decode cJ2_newBytesFor_77867 1 = .ok (.invokestatic 11, 3) := by decide +kernel
theorem dJ2_newBytesFor_77867_4 : decode cJ2_newBytesFor_77867 4 = .ok (.newarray .byte, 2) := by decide +kernel
theorem dJ2_newBytesFor_77867_6 : decode cJ2_newBytesFor_77867 6 = .ok (.areturn, 1) := by decide +kernel
theorem dJ2_newBytesLength_0f7a4_0 : decode cJ2_newBytesLength_0f7a4 0 = .ok (.iload_n 0, 1) := by decide +kernel
theorem dJ2_newBytesLength_0f7a4_1 : decode cJ2_newBytesLength_0f7a4 1 = .ok (.ifCond .ge 11, 3) := by decide +kernel
theorem dJ2_newBytesLength_0f7a4_4 : decode cJ2_newBytesLength_0f7a4 4 = .ok (.new 17, 3) := by decide +kernel
theorem dJ2_newBytesLength_0f7a4_7 : decode cJ2_newBytesLength_0f7a4 7 = .ok (.dup, 1) := by decide +kernel
theorem dJ2_newBytesLength_0f7a4_8 : decode cJ2_newBytesLength_0f7a4 8 = .ok (.invokespecial 19, 3) := by decide +kernel
theorem dJ2_newBytesLength_0f7a4_11 : decode cJ2_newBytesLength_0f7a4 11 = .ok (.athrow, 1) := by decide +kernel
theorem dJ2_newBytesLength_0f7a4_12 : decode cJ2_newBytesLength_0f7a4 12 = .ok (.iload_n 0, 1) := by decide +kernel
theorem dJ2_newBytesLength_0f7a4_13 : decode cJ2_newBytesLength_0f7a4 13 = .ok (.ldc 20, 2) := by decide +kernel
theorem dJ2_newBytesLength_0f7a4_15 : decode cJ2_newBytesLength_0f7a4 15 = .ok (.if_icmp .lt 40, 3) := by decide +kernel
theorem dJ2_newBytesLength_0f7a4_18 : decode cJ2_newBytesLength_0f7a4 18 = .ok (.new 21, 3) := by decide +kernel
theorem dJ2_newBytesLength_0f7a4_21 : decode cJ2_newBytesLength_0f7a4 21 = .ok (.dup, 1) := by decide +kernel
theorem dJ2_newBytesLength_0f7a4_22 : decode cJ2_newBytesLength_0f7a4 22 = .ok (.new 23, 3) := by decide +kernel
theorem dJ2_newBytesLength_0f7a4_25 : decode cJ2_newBytesLength_0f7a4 25 = .ok (.dup, 1) := by decide +kernel
theorem dJ2_newBytesLength_0f7a4_26 : decode cJ2_newBytesLength_0f7a4 26 = .ok (.invokespecial 25, 3) := by decide +kernel
theorem dJ2_newBytesLength_0f7a4_29 : decode cJ2_newBytesLength_0f7a4 29 = .ok (.ldc 26, 2) := by decide +kernel
theorem dJ2_newBytesLength_0f7a4_31 : decode cJ2_newBytesLength_0f7a4 31 = .ok (.invokevirtual 28, 3) := by decide +kernel
theorem dJ2_newBytesLength_0f7a4_34 : decode cJ2_newBytesLength_0f7a4 34 = .ok (.iload_n 0, 1) := by decide +kernel
theorem dJ2_newBytesLength_0f7a4_35 : decode cJ2_newBytesLength_0f7a4 35 = .ok (.invokevirtual 32, 3) := by decide +kernel
theorem dJ2_newBytesLength_0f7a4_38 : decode cJ2_newBytesLength_0f7a4 38 = .ok (.ldc 35, 2) := by decide +kernel
theorem dJ2_newBytesLength_0f7a4_40 : decode cJ2_newBytesLength_0f7a4 40 = .ok (.invokevirtual 28, 3) := by decide +kernel
theorem dJ2_newBytesLength_0f7a4_43 : decode cJ2_newBytesLength_0f7a4 43 = .ok (.ldc 20, 2) := by decide +kernel
theorem dJ2_newBytesLength_0f7a4_45 : decode cJ2_newBytesLength_0f7a4 45 = .ok (.invokevirtual 32, 3) := by decide +kernel
theorem dJ2_newBytesLength_0f7a4_48 : decode cJ2_newBytesLength_0f7a4 48 = .ok (.invokevirtual 37, 3) := by decide +kernel
theorem dJ2_newBytesLength_0f7a4_51 : decode cJ2_newBytesLength_0f7a4 51 = .ok (.invokespecial 41, 3) := by decide +kernel
theorem dJ2_newBytesLength_0f7a4_54 : decode cJ2_newBytesLength_0f7a4 54 = .ok (.athrow, 1) := by decide +kernel
theorem dJ2_newBytesLength_0f7a4_55 : decode cJ2_newBytesLength_0f7a4 55 = .ok (.iload_n 0, 1) := by decide +kernel
theorem dJ2_newBytesLength_0f7a4_56 : decode cJ2_newBytesLength_0f7a4 56 = .ok (.iconst 1, 1) := by decide +kernel
theorem dJ2_newBytesLength_0f7a4_57 : decode cJ2_newBytesLength_0f7a4 57 = .ok (.ishl, 1) := by decide +kernel
theorem dJ2_newBytesLength_0f7a4_58 : decode cJ2_newBytesLength_0f7a4 58 = .ok (.ireturn, 1) := by decide +kernel
theorem dJ2_putChar_b72d1_0 : decode cJ2_putChar_b72d1 0 = .ok (.getstatic 44, 3) := by decide +kernel
theorem dJ2_putChar_b72d1_3 : decode cJ2_putChar_b72d1 3 = .ok (.ifCond .ne 25, 3) := by decide +kernel
theorem dJ2_putChar_b72d1_6 : decode cJ2_putChar_b72d1 6 = .ok (.iload_n 1, 1) := by decide +kernel
theorem dJ2_putChar_b72d1_7 : decode cJ2_putChar_b72d1 7 = .ok (.ifCond .lt 11, 3) := by decide +kernel
theorem dJ2_putChar_b72d1_10 : decode cJ2_putChar_b72d1 10 = .ok (.iload_n 1, 1) := by decide +kernel
theorem dJ2_putChar_b72d1_11 : decode cJ2_putChar_b72d1 11 = .ok (.aload_n 0, 1) := by decide +kernel
theorem dJ2_putChar_b72d1_12 : decode cJ2_putChar_b72d1 12 = .ok (.invokestatic 48, 3) := by decide +kernel
theorem dJ2_putChar_b72d1_15 : decode cJ2_putChar_b72d1 15 = .ok (.if_icmp .lt 13, 3) := by decide +kernel
theorem dJ2_putChar_b72d1_18 : decode cJ2_putChar_b72d1 18 = .ok (.new 52, 3) := by decide +kernel
theorem dJ2_putChar_b72d1_21 : decode cJ2_putChar_b72d1 21 = .ok (.dup, 1) := by decide +kernel
theorem dJ2_putChar_b72d1_22 : decode cJ2_putChar_b72d1 22 = .ok (.ldc 54, 2) := by decide +kernel
theorem dJ2_putChar_b72d1_24 : decode cJ2_putChar_b72d1 24 = .ok (.invokespecial 56, 3) := by decide +kernel
theorem dJ2_putChar_b72d1_27 : decode cJ2_putChar_b72d1 27 = .ok (.athrow, 1) := by decide +kernel
theorem dJ2_putChar_b72d1_28 : decode cJ2_putChar_b72d1 28 = .ok (.iload_n 1, 1) := by decide +kernel
theorem dJ2_putChar_b72d1_29 : decode cJ2_putChar_b72d1 29 = .ok (.iconst 1, 1) := by decide +kernel
theorem dJ2_putChar_b72d1_30 : decode cJ2_putChar_b72d1 30 = .ok (.ishl, 1) := by decide +kernel
theorem dJ2_putChar_b72d1_31 : decode cJ2_putChar_b72d1 31 = .ok (.istore_n 1, 1) := by decide +kernel
theorem dJ2_putChar_b72d1_32 : decode cJ2_putChar_b72d1 32 = .ok (.aload_n 0, 1) := by decide +kernel
theorem dJ2_putChar_b72d1_33 : decode cJ2_putChar_b72d1 33 = .ok (.iload_n 1, 1) := by decide +kernel
theorem dJ2_putChar_b72d1_34 : decode cJ2_putChar_b72d1 34 = .ok (.iinc 1 1, 3) := by decide +kernel
theorem dJ2_putChar_b72d1_37 : decode cJ2_putChar_b72d1 37 = .ok (.iload_n 2, 1) := by decide +kernel
theorem dJ2_putChar_b72d1_38 : decode cJ2_putChar_b72d1 38 = .ok (.getstatic 59, 3) := by decide +kernel
theorem dJ2_putChar_b72d1_41 : decode cJ2_putChar_b72d1 41 = .ok (.ishr, 1) := by decide +kernel
theorem dJ2_putChar_b72d1_42 : decode cJ2_putChar_b72d1 42 = .ok (.i2b, 1) := by decide +kernel
theorem dJ2_putChar_b72d1_43 : decode cJ2_putChar_b72d1 43 = .ok (.bastore, 1) := by decide +kernel
theorem dJ2_putChar_b72d1_44 : decode cJ2_putChar_b72d1 44 = .ok (.aload_n 0, 1) := by decide +kernel
theorem dJ2_putChar_b72d1_45 : decode cJ2_putChar_b72d1 45 = .ok (.iload_n 1, 1) := by decide +kernel
theorem dJ2_putChar_b72d1_46 : decode cJ2_putChar_b72d1 46 = .ok (.iload_n 2, 1) := by decide +kernel
theorem dJ2_putChar_b72d1_47 : decode cJ2_putChar_b72d1 47 = .ok (.getstatic 63, 3) := by decide +kernel
theorem dJ2_putChar_b72d1_50 : decode cJ2_putChar_b72d1 50 = .ok (.ishr, 1) := by decide +kernel
theorem dJ2_putChar_b72d1_51 : decode cJ2_putChar_b72d1 51 = .ok (.i2b, 1) := by decide +kernel
theorem dJ2_putChar_b72d1_52 : decode cJ2_putChar_b72d1 52 = .ok (.bastore, 1) := by decide +kernel
theorem dJ2_putChar_b72d1_53 : decode cJ2_putChar_b72d1 53 = .ok (.return_, 1) := by decide +kernel
theorem dJ2_getChar_3b067_0 : decode cJ2_getChar_3b067 0 = .ok (.getstatic 44, 3) := by decide +kernel
theorem dJ2_getChar_3b067_3 : decode cJ2_getChar_3b067 3 = .ok (.ifCond .ne 25, 3) := by decide +kernel
theorem dJ2_getChar_3b067_6 : decode cJ2_getChar_3b067 6 = .ok (.iload_n 1, 1) := by decide +kernel
theorem dJ2_getChar_3b067_7 : decode cJ2_getChar_3b067 7 = .ok (.ifCond .lt 11, 3) := by decide +kernel
theorem dJ2_getChar_3b067_10 : decode cJ2_getChar_3b067 10 = .ok (.iload_n 1, 1) := by decide +kernel
theorem dJ2_getChar_3b067_11 : decode cJ2_getChar_3b067 11 = .ok (.aload_n 0, 1) := by decide +kernel
theorem dJ2_getChar_3b067_12 : decode cJ2_getChar_3b067 12 = .ok (.invokestatic 48, 3) := by decide +kernel
theorem dJ2_getChar_3b067_15 : decode cJ2_getChar_3b067 15 = .ok (.if_icmp .lt 13, 3) := by decide +kernel
theorem dJ2_getChar_3b067_18 : decode cJ2_getChar_3b067 18 = .ok (.new 52, 3) := by decide +kernel
theorem dJ2_getChar_3b067_21 : decode cJ2_getChar_3b067 21 = .ok (.dup, 1) := by decide +kernel
theorem dJ2_getChar_3b067_22 : decode cJ2_getChar_3b067 22 = .ok (.ldc 54, 2) := by decide +kernel
theorem dJ2_getChar_3b067_24 : decode cJ2_getChar_3b067 24 = .ok (.invokespecial 56, 3) := by decide +kernel
theorem dJ2_getChar_3b067_27 : decode cJ2_getChar_3b067 27 = .ok (.athrow, 1) := by decide +kernel
theorem dJ2_getChar_3b067_28 : decode cJ2_getChar_3b067 28 = .ok (.iload_n 1, 1) := by decide +kernel
theorem dJ2_getChar_3b067_29 : decode cJ2_getChar_3b067 29 = .ok (.iconst 1, 1) := by decide +kernel
theorem dJ2_getChar_3b067_30 : decode cJ2_getChar_3b067 30 = .ok (.ishl, 1) := by decide +kernel
theorem dJ2_getChar_3b067_31 : decode cJ2_getChar_3b067 31 = .ok (.istore_n 1, 1) := by decide +kernel
theorem dJ2_getChar_3b067_32 : decode cJ2_getChar_3b067 32 = .ok (.aload_n 0, 1) := by decide +kernel
theorem dJ2_getChar_3b067_33 : decode cJ2_getChar_3b067 33 = .ok (.iload_n 1, 1) := by decide +kernel
theorem dJ2_getChar_3b067_34 : decode cJ2_getChar_3b067 34 = .ok (.iinc 1 1, 3) := by decide +kernel
theorem dJ2_getChar_3b067_37 : decode cJ2_getChar_3b067 37 = .ok (.baload, 1) := by decide +kernel
theorem dJ2_getChar_3b067_38 : decode cJ2_getChar_3b067 38 = .ok (.sipush 255, 3) := by decide +kernel
theorem dJ2_getChar_3b067_41 : decode cJ2_getChar_3b067 41 = .ok (.iand, 1) := by decide +kernel
theorem dJ2_getChar_3b067_42 : decode cJ2_getChar_3b067 42 = .ok (.getstatic 59, 3) := by decide +kernel
theorem dJ2_getChar_3b067_45 : decode cJ2_getChar_3b067 45 = .ok (.ishl, 1) := by decide +kernel
theorem dJ2_getChar_3b067_46 : decode cJ2_getChar_3b067 46 = .ok (.aload_n 0, 1) := by decide +kernel
theorem dJ2_getChar_3b067_47 : decode cJ2_getChar_3b067 47 = .ok (.iload_n 1, 1) := by decide +kernel
theorem dJ2_getChar_3b067_48 : decode cJ2_getChar_3b067 48 = .ok (.baload, 1) := by decide +kernel
theorem dJ2_getChar_3b067_49 : decode cJ2_getChar_3b067 49 = .ok (.sipush 255, 3) := by decide +kernel
theorem dJ2_getChar_3b067_52 : decode cJ2_getChar_3b067 52 = .ok (.iand, 1) := by decide +kernel
theorem dJ2_getChar_3b067_53 : decode cJ2_getChar_3b067 53 = .ok (.getstatic 63, 3) := by decide +kernel
theorem dJ2_getChar_3b067_56 : decode cJ2_getChar_3b067 56 = .ok (.ishl, 1) := by decide +kernel
theorem dJ2_getChar_3b067_57 : decode cJ2_getChar_3b067 57 = .ok (.ior, 1) := by decide +kernel
theorem dJ2_getChar_3b067_58 : decode cJ2_getChar_3b067 58 = .ok (.i2c, 1) := by decide +kernel
theorem dJ2_getChar_3b067_59 : decode cJ2_getChar_3b067 59 = .ok (.ireturn, 1) := by decide +kernel
theorem dJ2_length_9d52b_0 : decode cJ2_length_9d52b 0 = .ok (.aload_n 0, 1) := by decide +kernel
theorem dJ2_length_9d52b_1 : decode cJ2_length_9d52b 1 = .ok (.arraylength, 1) := by decide +kernel
theorem dJ2_length_9d52b_2 : decode cJ2_length_9d52b 2 = .ok (.iconst 1, 1) := by decide +kernel
theorem dJ2_length_9d52b_3 : decode cJ2_length_9d52b 3 = .ok (.ishr, 1) := by decide +kernel
theorem dJ2_length_9d52b_4 : decode cJ2_length_9d52b 4 = .ok (.ireturn, 1) := by decide +kernel
theorem dJ2_coderFromArrayLen_85cad_0 : decode cJ2_coderFromArrayLen_85cad 0 = .ok (.iload_n 1, 1) := by decide +kernel
theorem dJ2_coderFromArrayLen_85cad_1 : decode cJ2_coderFromArrayLen_85cad 1 = .ok (.aload_n 0, 1) := by decide +kernel
theorem dJ2_coderFromArrayLen_85cad_2 : decode cJ2_coderFromArrayLen_85cad 2 = .ok (.arraylength, 1) := by decide +kernel
theorem dJ2_coderFromArrayLen_85cad_3 : decode cJ2_coderFromArrayLen_85cad 3 = .ok (.isub, 1) := by decide +kernel
theorem dJ2_coderFromArrayLen_85cad_4 : decode cJ2_coderFromArrayLen_85cad 4 = .ok (.bipush 31, 2) := by decide +kernel
theorem dJ2_coderFromArrayLen_85cad_6 : decode cJ2_coderFromArrayLen_85cad 6 = .ok (.iushr, 1) := by decide +kernel
theorem dJ2_coderFromArrayLen_85cad_7 : decode cJ2_coderFromArrayLen_85cad 7 = .ok (.i2b, 1) := by decide +kernel
theorem dJ2_coderFromArrayLen_85cad_8 : decode cJ2_coderFromArrayLen_85cad 8 = .ok (.ireturn, 1) := by decide +kernel
theorem dJ2_compress_39247_0 : decode cJ2_compress_39247 0 = .ok (.iload_n 2, 1) := by decide +kernel
theorem dJ2_compress_39247_1 : decode cJ2_compress_39247 1 = .ok (.newarray .byte, 2) := by decide +kernel
theorem dJ2_compress_39247_3 : decode cJ2_compress_39247 3 = .ok (.astore_n 3, 1) := by decide +kernel
theorem dJ2_compress_39247_4 : decode cJ2_compress_39247 4 = .ok (.aload_n 0, 1) := by decide +kernel
theorem dJ2_compress_39247_5 : decode cJ2_compress_39247 5 = .ok (.iload_n 1, 1) := by decide +kernel
theorem dJ2_compress_39247_6 : decode cJ2_compress_39247 6 = .ok (.aload_n 3, 1) := by decide +kernel
theorem dJ2_compress_39247_7 : decode cJ2_compress_39247 7 = .ok (.iconst 0, 1) := by decide +kernel
theorem dJ2_compress_39247_8 : decode cJ2_compress_39247 8 = .ok (.iload_n 2, 1) := by decide +kernel
theorem dJ2_compress_39247_9 : decode cJ2_compress_39247 9 = .ok (.invokestatic 123, 3) := by decide +kernel
theorem dJ2_compress_39247_12 : decode cJ2_compress_39247 12 = .ok (.istore 4, 2) := by decide +kernel
theorem dJ2_compress_39247_14 : decode cJ2_compress_39247 14 = .ok (.iload 4, 2) := by decide +kernel
theorem dJ2_compress_39247_16 : decode cJ2_compress_39247 16 = .ok (.iload_n 2, 1) := by decide +kernel
theorem dJ2_compress_39247_17 : decode cJ2_compress_39247 17 = .ok (.if_icmp .eq 47, 3) := by decide +kernel
theorem dJ2_compress_39247_20 : decode cJ2_compress_39247 20 = .ok (.aload_n 0, 1) := by decide +kernel
theorem dJ2_compress_39247_21 : decode cJ2_compress_39247 21 = .ok (.iload_n 1, 1) := by decide +kernel
theorem dJ2_compress_39247_22 : decode cJ2_compress_39247 22 = .ok (.iconst 1, 1) := by decide +kernel
theorem dJ2_compress_39247_23 : decode cJ2_compress_39247 23 = .ok (.ishl, 1) := by decide +kernel
theorem dJ2_compress_39247_24 : decode cJ2_compress_39247 24 = .ok (.iload_n 1, 1) := by decide +kernel
theorem dJ2_compress_39247_25 : decode cJ2_compress_39247 25 = .ok (.iload_n 2, 1) := by decide +kernel
theorem dJ2_compress_39247_26 : decode cJ2_compress_39247 26 = .ok (.iadd, 1) := by decide +kernel
theorem dJ2_compress_39247_27 : decode cJ2_compress_39247 27 = .ok (.invokestatic 11, 3) := by decide +kernel
theorem dJ2_compress_39247_30 : decode cJ2_compress_39247 30 = .ok (.invokestatic 126, 3) := by decide +kernel
theorem dJ2_compress_39247_33 : decode cJ2_compress_39247 33 = .ok (.astore 5, 2) := by decide +kernel
theorem dJ2_compress_39247_35 : decode cJ2_compress_39247 35 = .ok (.aload 5, 2) := by decide +kernel
theorem dJ2_compress_39247_37 : decode cJ2_compress_39247 37 = .ok (.iload 4, 2) := by decide +kernel
theorem dJ2_compress_39247_39 : decode cJ2_compress_39247 39 = .ok (.invokestatic 71, 3) := by decide +kernel
theorem dJ2_compress_39247_42 : decode cJ2_compress_39247 42 = .ok (.sipush 255, 3) := by decide +kernel
theorem dJ2_compress_39247_45 : decode cJ2_compress_39247 45 = .ok (.if_icmp .gt 16, 3) := by decide +kernel
theorem dJ2_compress_39247_48 : decode cJ2_compress_39247 48 = .ok (.aload 5, 2) := by decide +kernel
theorem dJ2_compress_39247_50 : decode cJ2_compress_39247 50 = .ok (.iconst 0, 1) := by decide +kernel
theorem dJ2_compress_39247_51 : decode cJ2_compress_39247 51 = .ok (.aload_n 3, 1) := by decide +kernel
theorem dJ2_compress_39247_52 : decode cJ2_compress_39247 52 = .ok (.iconst 0, 1) := by decide +kernel
theorem dJ2_compress_39247_53 : decode cJ2_compress_39247 53 = .ok (.iload_n 2, 1) := by decide +kernel
theorem dJ2_compress_39247_54 : decode cJ2_compress_39247 54 = .ok (.invokestatic 123, 3) := by decide +kernel
theorem dJ2_compress_39247_57 : decode cJ2_compress_39247 57 = .ok (.iload_n 2, 1) := by decide +kernel
theorem dJ2_compress_39247_58 : decode cJ2_compress_39247 58 = .ok (.if_icmp .eq 6, 3) := by decide +kernel
theorem dJ2_compress_39247_61 : decode cJ2_compress_39247 61 = .ok (.aload 5, 2) := by decide +kernel
theorem dJ2_compress_39247_63 : decode cJ2_compress_39247 63 = .ok (.areturn, 1) := by decide +kernel
theorem dJ2_compress_39247_64 : decode cJ2_compress_39247 64 = .ok (.aload_n 3, 1) := by decide +kernel
theorem dJ2_compress_39247_65 : decode cJ2_compress_39247 65 = .ok (.areturn, 1) := by decide +kernel
theorem dJ2_compress_5af95_0 : decode cJ2_compress_5af95 0 = .ok (.iload_n 1, 1) := by decide +kernel
theorem dJ2_compress_5af95_1 : decode cJ2_compress_5af95 1 = .ok (.iload 4, 2) := by decide +kernel
theorem dJ2_compress_5af95_3 : decode cJ2_compress_5af95 3 = .ok (.aload_n 0, 1) := by decide +kernel
theorem dJ2_compress_5af95_4 : decode cJ2_compress_5af95 4 = .ok (.invokestatic 173, 3) := by decide +kernel
theorem dJ2_compress_5af95_7 : decode cJ2_compress_5af95 7 = .ok (.iconst 0, 1) := by decide +kernel
theorem dJ2_compress_5af95_8 : decode cJ2_compress_5af95 8 = .ok (.istore 5, 2) := by decide +kernel
theorem dJ2_compress_5af95_10 : decode cJ2_compress_5af95 10 = .ok (.iload 5, 2) := by decide +kernel
theorem dJ2_compress_5af95_12 : decode cJ2_compress_5af95 12 = .ok (.iload 4, 2) := by decide +kernel
theorem dJ2_compress_5af95_14 : decode cJ2_compress_5af95 14 = .ok (.if_icmp .ge 39, 3) := by decide +kernel
theorem dJ2_compress_5af95_17 : decode cJ2_compress_5af95 17 = .ok (.aload_n 0, 1) := by decide +kernel
theorem dJ2_compress_5af95_18 : decode cJ2_compress_5af95 18 = .ok (.iload_n 1, 1) := by decide +kernel
theorem dJ2_compress_5af95_19 : decode cJ2_compress_5af95 19 = .ok (.invokestatic 71, 3) := by decide +kernel
theorem dJ2_compress_5af95_22 : decode cJ2_compress_5af95 22 = .ok (.istore 6, 2) := by decide +kernel
theorem dJ2_compress_5af95_24 : decode cJ2_compress_5af95 24 = .ok (.iload 6, 2) := by decide +kernel
theorem dJ2_compress_5af95_26 : decode cJ2_compress_5af95 26 = .ok (.sipush 255, 3) := by decide +kernel
theorem dJ2_compress_5af95_29 : decode cJ2_compress_5af95 29 = .ok (.if_icmp .le 6, 3) := by decide +kernel
theorem dJ2_compress_5af95_32 : decode cJ2_compress_5af95 32 = .ok (.iload 5, 2) := by decide +kernel
theorem dJ2_compress_5af95_34 : decode cJ2_compress_5af95 34 = .ok (.ireturn, 1) := by decide +kernel
theorem dJ2_compress_5af95_35 : decode cJ2_compress_5af95 35 = .ok (.aload_n 2, 1) := by decide +kernel
theorem dJ2_compress_5af95_36 : decode cJ2_compress_5af95 36 = .ok (.iload_n 3, 1) := by decide +kernel
theorem dJ2_compress_5af95_37 : decode cJ2_compress_5af95 37 = .ok (.iload 6, 2) := by decide +kernel
theorem dJ2_compress_5af95_39 : decode cJ2_compress_5af95 39 = .ok (.i2b, 1) := by decide +kernel
theorem dJ2_compress_5af95_40 : decode cJ2_compress_5af95 40 = .ok (.bastore, 1) := by decide +kernel
theorem dJ2_compress_5af95_41 : decode cJ2_compress_5af95 41 = .ok (.iinc 1 1, 3) := by decide +kernel
theorem dJ2_compress_5af95_44 : decode cJ2_compress_5af95 44 = .ok (.iinc 3 1, 3) := by decide +kernel
theorem dJ2_compress_5af95_47 : decode cJ2_compress_5af95 47 = .ok (.iinc 5 1, 3) := by decide +kernel
theorem dJ2_compress_5af95_50 : decode cJ2_compress_5af95 50 = .ok (.goto (-40), 3) := by decide +kernel
theorem dJ2_compress_5af95_53 : decode cJ2_compress_5af95 53 = .ok (.iload 4, 2) := by decide +kernel
theorem dJ2_compress_5af95_55 : decode cJ2_compress_5af95 55 = .ok (.ireturn, 1) := by decide +kernel
theorem dJ2_putCharSB_b72d1_0 : decode cJ2_putCharSB_b72d1 0 = .ok (.iload_n 1, 1) := by decide +kernel
theorem dJ2_putCharSB_b72d1_1 : decode cJ2_putCharSB_b72d1 1 = .ok (.aload_n 0, 1) := by decide +kernel
theorem dJ2_putCharSB_b72d1_2 : decode cJ2_putCharSB_b72d1 2 = .ok (.invokestatic 67, 3) := by decide +kernel
theorem dJ2_putCharSB_b72d1_5 : decode cJ2_putCharSB_b72d1 5 = .ok (.aload_n 0, 1) := by decide +kernel
theorem dJ2_putCharSB_b72d1_6 : decode cJ2_putCharSB_b72d1 6 = .ok (.iload_n 1, 1) := by decide +kernel
theorem dJ2_putCharSB_b72d1_7 : decode cJ2_putCharSB_b72d1 7 = .ok (.iload_n 2, 1) := by decide +kernel
theorem dJ2_putCharSB_b72d1_8 : decode cJ2_putCharSB_b72d1 8 = .ok (.invokestatic 111, 3) := by decide +kernel
theorem dJ2_putCharSB_b72d1_11 : decode cJ2_putCharSB_b72d1 11 = .ok (.return_, 1) := by decide +kernel
theorem dJ2_getChars_46870_0 : decode cJ2_getChars_46870 0 = .ok (.iload_n 1, 1) := by decide +kernel
theorem dJ2_getChars_46870_1 : decode cJ2_getChars_46870 1 = .ok (.iload_n 2, 1) := by decide +kernel
theorem dJ2_getChars_46870_2 : decode cJ2_getChars_46870 2 = .ok (.aload_n 3, 1) := by decide +kernel
theorem dJ2_getChars_46870_3 : decode cJ2_getChars_46870 3 = .ok (.invokestatic 96, 3) := by decide +kernel
theorem dJ2_getChars_46870_6 : decode cJ2_getChars_46870 6 = .ok (.iload_n 0, 1) := by decide +kernel
theorem dJ2_getChars_46870_7 : decode cJ2_getChars_46870 7 = .ok (.iload_n 2, 1) := by decide +kernel
theorem dJ2_getChars_46870_8 : decode cJ2_getChars_46870 8 = .ok (.aload_n 3, 1) := by decide +kernel
theorem dJ2_getChars_46870_9 : decode cJ2_getChars_46870 9 = .ok (.invokestatic 393, 3) := by decide +kernel
theorem dJ2_getChars_46870_12 : decode cJ2_getChars_46870 12 = .ok (.istore 4, 2) := by decide +kernel
theorem dJ2_getChars_46870_14 : decode cJ2_getChars_46870 14 = .ok (.getstatic 44, 3) := by decide +kernel
theorem dJ2_getChars_46870_17 : decode cJ2_getChars_46870 17 = .ok (.ifCond .ne 17, 3) := by decide +kernel
theorem dJ2_getChars_46870_20 : decode cJ2_getChars_46870 20 = .ok (.iload_n 1, 1) := by decide +kernel
theorem dJ2_getChars_46870_21 : decode cJ2_getChars_46870 21 = .ok (.iload 4, 2) := by decide +kernel
theorem dJ2_getChars_46870_23 : decode cJ2_getChars_46870 23 = .ok (.if_icmp .eq 11, 3) := by decide +kernel
theorem dJ2_getChars_46870_26 : decode cJ2_getChars_46870 26 = .ok (.new 52, 3) := by decide +kernel
theorem dJ2_getChars_46870_29 : decode cJ2_getChars_46870 29 = .ok (.dup, 1) := by decide +kernel
theorem dJ2_getChars_46870_30 : decode cJ2_getChars_46870 30 = .ok (.invokespecial 66, 3) := by decide +kernel
theorem dJ2_getChars_46870_33 : decode cJ2_getChars_46870 33 = .ok (.athrow, 1) := by decide +kernel
theorem dJ2_getChars_46870_34 : decode cJ2_getChars_46870 34 = .ok (.iload 4, 2) := by decide +kernel
theorem dJ2_getChars_46870_36 : decode cJ2_getChars_46870 36 = .ok (.ireturn, 1) := by decide +kernel
theorem dJ2_putCharsAt_cd4e5_0 : decode cJ2_putCharsAt_cd4e5 0 = .ok (.iload_n 1, 1) := by decide +kernel
theorem dJ2_putCharsAt_cd4e5_1 : decode cJ2_putCharsAt_cd4e5 1 = .ok (.iconst 4, 1) := by decide +kernel
theorem dJ2_putCharsAt_cd4e5_2 : decode cJ2_putCharsAt_cd4e5 2 = .ok (.iadd, 1) := by decide +kernel
theorem dJ2_putCharsAt_cd4e5_3 : decode cJ2_putCharsAt_cd4e5 3 = .ok (.istore 6, 2) := by decide +kernel
theorem dJ2_putCharsAt_cd4e5_5 : decode cJ2_putCharsAt_cd4e5 5 = .ok (.iload_n 1, 1) := by decide +kernel
theorem dJ2_putCharsAt_cd4e5_6 : decode cJ2_putCharsAt_cd4e5 6 = .ok (.iload 6, 2) := by decide +kernel
theorem dJ2_putCharsAt_cd4e5_8 : decode cJ2_putCharsAt_cd4e5 8 = .ok (.aload_n 0, 1) := by decide +kernel
theorem dJ2_putCharsAt_cd4e5_9 : decode cJ2_putCharsAt_cd4e5 9 = .ok (.invokestatic 96, 3) := by decide +kernel
theorem dJ2_putCharsAt_cd4e5_12 : decode cJ2_putCharsAt_cd4e5 12 = .ok (.aload_n 0, 1) := by decide +kernel
theorem dJ2_putCharsAt_cd4e5_13 : decode cJ2_putCharsAt_cd4e5 13 = .ok (.iload_n 1, 1) := by decide +kernel
theorem dJ2_putCharsAt_cd4e5_14 : decode cJ2_putCharsAt_cd4e5 14 = .ok (.iinc 1 1, 3) := by decide +kernel
theorem dJ2_putCharsAt_cd4e5_17 : decode cJ2_putCharsAt_cd4e5 17 = .ok (.iload_n 2, 1) := by decide +kernel
theorem dJ2_putCharsAt_cd4e5_18 : decode cJ2_putCharsAt_cd4e5 18 = .ok (.invokestatic 111, 3) := by decide +kernel
theorem dJ2_putCharsAt_cd4e5_21 : decode cJ2_putCharsAt_cd4e5 21 = .ok (.aload_n 0, 1) := by decide +kernel
theorem dJ2_putCharsAt_cd4e5_22 : decode cJ2_putCharsAt_cd4e5 22 = .ok (.iload_n 1, 1) := by decide +kernel
theorem dJ2_putCharsAt_cd4e5_23 : decode cJ2_putCharsAt_cd4e5 23 = .ok (.iinc 1 1, 3) := by decide +kernel
theorem dJ2_putCharsAt_cd4e5_26 : decode cJ2_putCharsAt_cd4e5 26 = .ok (.iload_n 3, 1) := by decide +kernel
theorem dJ2_putCharsAt_cd4e5_27 : decode cJ2_putCharsAt_cd4e5 27 = .ok (.invokestatic 111, 3) := by decide +kernel
theorem dJ2_putCharsAt_cd4e5_30 : decode cJ2_putCharsAt_cd4e5 30 = .ok (.aload_n 0, 1) := by decide +kernel
theorem dJ2_putCharsAt_cd4e5_31 : decode cJ2_putCharsAt_cd4e5 31 = .ok (.iload_n 1, 1) := by decide +kernel
theorem dJ2_putCharsAt_cd4e5_32 : decode cJ2_putCharsAt_cd4e5 32 = .ok (.iinc 1 1, 3) := by decide +kernel
theorem dJ2_putCharsAt_cd4e5_35 : decode cJ2_putCharsAt_cd4e5 35 = .ok (.iload 4, 2) := by decide +kernel
theorem dJ2_putCharsAt_cd4e5_37 : decode cJ2_putCharsAt_cd4e5 37 = .ok (.invokestatic 111, 3) := by decide +kernel
theorem dJ2_putCharsAt_cd4e5_40 : decode cJ2_putCharsAt_cd4e5 40 = .ok (.aload_n 0, 1) := by decide +kernel
theorem dJ2_putCharsAt_cd4e5_41 : decode cJ2_putCharsAt_cd4e5 41 = .ok (.iload_n 1, 1) := by decide +kernel
theorem dJ2_putCharsAt_cd4e5_42 : decode cJ2_putCharsAt_cd4e5 42 = .ok (.iinc 1 1, 3) := by decide +kernel
theorem dJ2_putCharsAt_cd4e5_45 : decode cJ2_putCharsAt_cd4e5 45 = .ok (.iload 5, 2) := by decide +kernel
theorem dJ2_putCharsAt_cd4e5_47 : decode cJ2_putCharsAt_cd4e5 47 = .ok (.invokestatic 111, 3) := by decide +kernel
theorem dJ2_putCharsAt_cd4e5_50 : decode cJ2_putCharsAt_cd4e5 50 = .ok (.getstatic 44, 3) := by decide +kernel
theorem dJ2_putCharsAt_cd4e5_53 : decode cJ2_putCharsAt_cd4e5 53 = .ok (.ifCond .ne 17, 3) := by decide +kernel
theorem dJ2_putCharsAt_cd4e5_56 : decode cJ2_putCharsAt_cd4e5 56 = .ok (.iload_n 1, 1) := by decide +kernel
theorem dJ2_putCharsAt_cd4e5_57 : decode cJ2_putCharsAt_cd4e5 57 = .ok (.iload 6, 2) := by decide +kernel
theorem dJ2_putCharsAt_cd4e5_59 : decode cJ2_putCharsAt_cd4e5 59 = .ok (.if_icmp .eq 11, 3) := by decide +kernel
theorem dJ2_putCharsAt_cd4e5_62 : decode cJ2_putCharsAt_cd4e5 62 = .ok (.new 52, 3) := by decide +kernel
theorem dJ2_putCharsAt_cd4e5_65 : decode cJ2_putCharsAt_cd4e5 65 = .ok (.dup, 1) := by decide +kernel
theorem dJ2_putCharsAt_cd4e5_66 : decode cJ2_putCharsAt_cd4e5 66 = .ok (.invokespecial 66, 3) := by decide +kernel
theorem dJ2_putCharsAt_cd4e5_69 : decode cJ2_putCharsAt_cd4e5 69 = .ok (.athrow, 1) := by decide +kernel
theorem dJ2_putCharsAt_cd4e5_70 : decode cJ2_putCharsAt_cd4e5 70 = .ok (.iload 6, 2) := by decide +kernel
theorem dJ2_putCharsAt_cd4e5_72 : decode cJ2_putCharsAt_cd4e5 72 = .ok (.ireturn, 1) := by decide +kernel
theorem dJ2_charAt_3b067_0 : decode cJ2_charAt_3b067 0 = .ok (.iload_n 1, 1) := by decide +kernel
theorem dJ2_charAt_3b067_1 : decode cJ2_charAt_3b067 1 = .ok (.aload_n 0, 1) := by decide +kernel
theorem dJ2_charAt_3b067_2 : decode cJ2_charAt_3b067 2 = .ok (.invokestatic 67, 3) := by decide +kernel
theorem dJ2_charAt_3b067_5 : decode cJ2_charAt_3b067 5 = .ok (.aload_n 0, 1) := by decide +kernel
theorem dJ2_charAt_3b067_6 : decode cJ2_charAt_3b067 6 = .ok (.iload_n 1, 1) := by decide +kernel
theorem dJ2_charAt_3b067_7 : decode cJ2_charAt_3b067 7 = .ok (.invokestatic 71, 3) := by decide +kernel
theorem dJ2_charAt_3b067_10 : decode cJ2_charAt_3b067 10 = .ok (.ireturn, 1) := by decide +kernel
theorem dJ2_inflate_0e8fd_0 : decode cJ2_inflate_0e8fd 0 = .ok (.iload_n 3, 1) := by decide +kernel
theorem dJ2_inflate_0e8fd_1 : decode cJ2_inflate_0e8fd 1 = .ok (.iload 4, 2) := by decide +kernel
theorem dJ2_inflate_0e8fd_3 : decode cJ2_inflate_0e8fd 3 = .ok (.aload_n 2, 1) := by decide +kernel
theorem dJ2_inflate_0e8fd_4 : decode cJ2_inflate_0e8fd 4 = .ok (.invokestatic 173, 3) := by decide +kernel
theorem dJ2_inflate_0e8fd_7 : decode cJ2_inflate_0e8fd 7 = .ok (.iconst 0, 1) := by decide +kernel
theorem dJ2_inflate_0e8fd_8 : decode cJ2_inflate_0e8fd 8 = .ok (.istore 5, 2) := by decide +kernel
theorem dJ2_inflate_0e8fd_10 : decode cJ2_inflate_0e8fd 10 = .ok (.iload 5, 2) := by decide +kernel
theorem dJ2_inflate_0e8fd_12 : decode cJ2_inflate_0e8fd 12 = .ok (.iload 4, 2) := by decide +kernel
theorem dJ2_inflate_0e8fd_14 : decode cJ2_inflate_0e8fd 14 = .ok (.if_icmp .ge 27, 3) := by decide +kernel
theorem dJ2_inflate_0e8fd_17 : decode cJ2_inflate_0e8fd 17 = .ok (.aload_n 2, 1) := by decide +kernel
theorem dJ2_inflate_0e8fd_18 : decode cJ2_inflate_0e8fd 18 = .ok (.iload_n 3, 1) := by decide +kernel
theorem dJ2_inflate_0e8fd_19 : decode cJ2_inflate_0e8fd 19 = .ok (.iinc 3 1, 3) := by decide +kernel
theorem dJ2_inflate_0e8fd_22 : decode cJ2_inflate_0e8fd 22 = .ok (.aload_n 0, 1) := by decide +kernel
theorem dJ2_inflate_0e8fd_23 : decode cJ2_inflate_0e8fd 23 = .ok (.iload_n 1, 1) := by decide +kernel
theorem dJ2_inflate_0e8fd_24 : decode cJ2_inflate_0e8fd 24 = .ok (.iinc 1 1, 3) := by decide +kernel
theorem dJ2_inflate_0e8fd_27 : decode cJ2_inflate_0e8fd 27 = .ok (.baload, 1) := by decide +kernel
theorem dJ2_inflate_0e8fd_28 : decode cJ2_inflate_0e8fd 28 = .ok (.sipush 255, 3) := by decide +kernel
theorem dJ2_inflate_0e8fd_31 : decode cJ2_inflate_0e8fd 31 = .ok (.iand, 1) := by decide +kernel
theorem dJ2_inflate_0e8fd_32 : decode cJ2_inflate_0e8fd 32 = .ok (.invokestatic 111, 3) := by decide +kernel
theorem dJ2_inflate_0e8fd_35 : decode cJ2_inflate_0e8fd 35 = .ok (.iinc 5 1, 3) := by decide +kernel
theorem dJ2_inflate_0e8fd_38 : decode cJ2_inflate_0e8fd 38 = .ok (.goto (-28), 3) := by decide +kernel
theorem dJ2_inflate_0e8fd_41 : decode cJ2_inflate_0e8fd 41 = .ok (.return_, 1) := by decide +kernel
theorem dJ2_getChars_ba4f3_0 : decode cJ2_getChars_ba4f3 0 = .ok (.iload_n 1, 1) := by decide +kernel
theorem dJ2_getChars_ba4f3_1 : decode cJ2_getChars_ba4f3 1 = .ok (.istore 5, 2) := by decide +kernel
theorem dJ2_getChars_ba4f3_3 : decode cJ2_getChars_ba4f3 3 = .ok (.iload_n 0, 1) := by decide +kernel
theorem dJ2_getChars_ba4f3_4 : decode cJ2_getChars_ba4f3 4 = .ok (.ifCond .ge 7, 3) := by decide +kernel
theorem dJ2_getChars_ba4f3_7 : decode cJ2_getChars_ba4f3 7 = .ok (.iconst 1, 1) := by decide +kernel
theorem dJ2_getChars_ba4f3_8 : decode cJ2_getChars_ba4f3 8 = .ok (.goto 4, 3) := by decide +kernel
theorem dJ2_getChars_ba4f3_11 : decode cJ2_getChars_ba4f3 11 = .ok (.iconst 0, 1) := by decide +kernel
theorem dJ2_getChars_ba4f3_12 : decode cJ2_getChars_ba4f3 12 = .ok (.istore 6, 2) := by decide +kernel
theorem dJ2_getChars_ba4f3_14 : decode cJ2_getChars_ba4f3 14 = .ok (.iload 6, 2) := by decide +kernel
theorem dJ2_getChars_ba4f3_16 : decode cJ2_getChars_ba4f3 16 = .ok (.ifCond .ne 6, 3) := by decide +kernel
theorem dJ2_getChars_ba4f3_19 : decode cJ2_getChars_ba4f3 19 = .ok (.iload_n 0, 1) := by decide +kernel
theorem dJ2_getChars_ba4f3_20 : decode cJ2_getChars_ba4f3 20 = .ok (.ineg, 1) := by decide +kernel
theorem dJ2_getChars_ba4f3_21 : decode cJ2_getChars_ba4f3 21 = .ok (.istore_n 0, 1) := by decide +kernel
theorem dJ2_getChars_ba4f3_22 : decode cJ2_getChars_ba4f3 22 = .ok (.iload_n 0, 1) := by decide +kernel
theorem dJ2_getChars_ba4f3_23 : decode cJ2_getChars_ba4f3 23 = .ok (.bipush (-100), 2) := by decide +kernel
theorem dJ2_getChars_ba4f3_25 : decode cJ2_getChars_ba4f3 25 = .ok (.if_icmp .gt 51, 3) := by decide +kernel
theorem dJ2_getChars_ba4f3_28 : decode cJ2_getChars_ba4f3 28 = .ok (.iload_n 0, 1) := by decide +kernel
theorem dJ2_getChars_ba4f3_29 : decode cJ2_getChars_ba4f3 29 = .ok (.bipush 100, 2) := by decide +kernel
theorem dJ2_getChars_ba4f3_31 : decode cJ2_getChars_ba4f3 31 = .ok (.idiv, 1) := by decide +kernel
theorem dJ2_getChars_ba4f3_32 : decode cJ2_getChars_ba4f3 32 = .ok (.istore_n 3, 1) := by decide +kernel
theorem dJ2_getChars_ba4f3_33 : decode cJ2_getChars_ba4f3 33 = .ok (.iload_n 3, 1) := by decide +kernel
theorem dJ2_getChars_ba4f3_34 : decode cJ2_getChars_ba4f3 34 = .ok (.bipush 100, 2) := by decide +kernel
theorem dJ2_getChars_ba4f3_36 : decode cJ2_getChars_ba4f3 36 = .ok (.imul, 1) := by decide +kernel
theorem dJ2_getChars_ba4f3_37 : decode cJ2_getChars_ba4f3 37 = .ok (.iload_n 0, 1) := by decide +kernel
theorem dJ2_getChars_ba4f3_38 : decode cJ2_getChars_ba4f3 38 = .ok (.isub, 1) := by decide +kernel
theorem dJ2_getChars_ba4f3_39 : decode cJ2_getChars_ba4f3 39 = .ok (.istore 4, 2) := by decide +kernel
theorem dJ2_getChars_ba4f3_41 : decode cJ2_getChars_ba4f3 41 = .ok (.iload_n 3, 1) := by decide +kernel
theorem dJ2_getChars_ba4f3_42 : decode cJ2_getChars_ba4f3 42 = .ok (.istore_n 0, 1) := by decide +kernel
theorem dJ2_getChars_ba4f3_43 : decode cJ2_getChars_ba4f3 43 = .ok (.aload_n 2, 1) := by decide +kernel
theorem dJ2_getChars_ba4f3_44 : decode cJ2_getChars_ba4f3 44 = .ok (.iinc 5 (-1), 3) := by decide +kernel
theorem dJ2_getChars_ba4f3_47 : decode cJ2_getChars_ba4f3 47 = .ok (.iload 5, 2) := by decide +kernel
theorem dJ2_getChars_ba4f3_49 : decode cJ2_getChars_ba4f3 49 = .ok (.getstatic 403, 3) := by decide +kernel
theorem dJ2_getChars_ba4f3_52 : decode cJ2_getChars_ba4f3 52 = .ok (.iload 4, 2) := by decide +kernel
theorem dJ2_getChars_ba4f3_54 : decode cJ2_getChars_ba4f3 54 = .ok (.baload, 1) := by decide +kernel
theorem dJ2_getChars_ba4f3_55 : decode cJ2_getChars_ba4f3 55 = .ok (.invokestatic 111, 3) := by decide +kernel
theorem dJ2_getChars_ba4f3_58 : decode cJ2_getChars_ba4f3 58 = .ok (.aload_n 2, 1) := by decide +kernel
theorem dJ2_getChars_ba4f3_59 : decode cJ2_getChars_ba4f3 59 = .ok (.iinc 5 (-1), 3) := by decide +kernel
theorem dJ2_getChars_ba4f3_62 : decode cJ2_getChars_ba4f3 62 = .ok (.iload 5, 2) := by decide +kernel
theorem dJ2_getChars_ba4f3_64 : decode cJ2_getChars_ba4f3 64 = .ok (.getstatic 407, 3) := by decide +kernel
theorem dJ2_getChars_ba4f3_67 : decode cJ2_getChars_ba4f3 67 = .ok (.iload 4, 2) := by decide +kernel
theorem dJ2_getChars_ba4f3_69 : decode cJ2_getChars_ba4f3 69 = .ok (.baload, 1) := by decide +kernel
theorem dJ2_getChars_ba4f3_70 : decode cJ2_getChars_ba4f3 70 = .ok (.invokestatic 111, 3) := by decide +kernel
theorem dJ2_getChars_ba4f3_73 : decode cJ2_getChars_ba4f3 73 = .ok (.goto (-51), 3) := by decide +kernel
theorem dJ2_getChars_ba4f3_76 : decode cJ2_getChars_ba4f3 76 = .ok (.aload_n 2, 1) := by decide +kernel
theorem dJ2_getChars_ba4f3_77 : decode cJ2_getChars_ba4f3 77 = .ok (.iinc 5 (-1), 3) := by decide +kernel
theorem dJ2_getChars_ba4f3_80 : decode cJ2_getChars_ba4f3 80 = .ok (.iload 5, 2) := by decide +kernel
theorem dJ2_getChars_ba4f3_82 : decode cJ2_getChars_ba4f3 82 = .ok (.getstatic 403, 3) := by decide +kernel
theorem dJ2_getChars_ba4f3_85 : decode cJ2_getChars_ba4f3 85 = .ok (.iload_n 0, 1) := by decide +kernel
theorem dJ2_getChars_ba4f3_86 : decode cJ2_getChars_ba4f3 86 = .ok (.ineg, 1) := by decide +kernel
theorem dJ2_getChars_ba4f3_87 : decode cJ2_getChars_ba4f3 87 = .ok (.baload, 1) := by decide +kernel
theorem dJ2_getChars_ba4f3_88 : decode cJ2_getChars_ba4f3 88 = .ok (.invokestatic 111, 3) := by decide +kernel
theorem dJ2_getChars_ba4f3_91 : decode cJ2_getChars_ba4f3 91 = .ok (.iload_n 0, 1) := by decide +kernel
theorem dJ2_getChars_ba4f3_92 : decode cJ2_getChars_ba4f3 92 = .ok (.bipush (-9), 2) := by decide +kernel
theorem dJ2_getChars_ba4f3_94 : decode cJ2_getChars_ba4f3 94 = .ok (.if_icmp .ge 18, 3) := by decide +kernel
theorem dJ2_getChars_ba4f3_97 : decode cJ2_getChars_ba4f3 97 = .ok (.aload_n 2, 1) := by decide +kernel
theorem dJ2_getChars_ba4f3_98 : decode cJ2_getChars_ba4f3 98 = .ok (.iinc 5 (-1), 3) := by decide +kernel
theorem dJ2_getChars_ba4f3_101 : decode cJ2_getChars_ba4f3 101 = .ok (.iload 5, 2) := by decide +kernel
theorem dJ2_getChars_ba4f3_103 : decode cJ2_getChars_ba4f3 103 = .ok (.getstatic 407, 3) := by decide +kernel
theorem dJ2_getChars_ba4f3_106 : decode cJ2_getChars_ba4f3 106 = .ok (.iload_n 0, 1) := by decide +kernel
theorem dJ2_getChars_ba4f3_107 : decode cJ2_getChars_ba4f3 107 = .ok (.ineg, 1) := by decide +kernel
theorem dJ2_getChars_ba4f3_108 : decode cJ2_getChars_ba4f3 108 = .ok (.baload, 1) := by decide +kernel
theorem dJ2_getChars_ba4f3_109 : decode cJ2_getChars_ba4f3 109 = .ok (.invokestatic 111, 3) := by decide +kernel
theorem dJ2_getChars_ba4f3_112 : decode cJ2_getChars_ba4f3 112 = .ok (.iload 6, 2) := by decide +kernel
theorem dJ2_getChars_ba4f3_114 : decode cJ2_getChars_ba4f3 114 = .ok (.ifCond .eq 14, 3) := by decide +kernel
theorem dJ2_getChars_ba4f3_117 : decode cJ2_getChars_ba4f3 117 = .ok (.aload_n 2, 1) := by decide +kernel
theorem dJ2_getChars_ba4f3_118 : decode cJ2_getChars_ba4f3 118 = .ok (.iinc 5 (-1), 3) := by decide +kernel
theorem dJ2_getChars_ba4f3_121 : decode cJ2_getChars_ba4f3 121 = .ok (.iload 5, 2) := by decide +kernel
theorem dJ2_getChars_ba4f3_123 : decode cJ2_getChars_ba4f3 123 = .ok (.bipush 45, 2) := by decide +kernel
theorem dJ2_getChars_ba4f3_125 : decode cJ2_getChars_ba4f3 125 = .ok (.invokestatic 111, 3) := by decide +kernel
theorem dJ2_getChars_ba4f3_128 : decode cJ2_getChars_ba4f3 128 = .ok (.iload 5, 2) := by decide +kernel
theorem dJ2_getChars_ba4f3_130 : decode cJ2_getChars_ba4f3 130 = .ok (.ireturn, 1) := by decide +kernel
theorem dJ2_checkIndex_2214a_0 : decode cJ2_checkIndex_2214a 0 = .ok (.iload_n 0, 1) := by decide +kernel
theorem dJ2_checkIndex_2214a_1 : decode cJ2_checkIndex_2214a 1 = .ok (.aload_n 1, 1) := by decide +kernel
theorem dJ2_checkIndex_2214a_2 : decode cJ2_checkIndex_2214a 2 = .ok (.invokestatic 48, 3) := by decide +kernel
theorem dJ2_checkIndex_2214a_5 : decode cJ2_checkIndex_2214a 5 = .ok (.invokestatic 414, 3) := by decide +kernel
theorem dJ2_checkIndex_2214a_8 : decode cJ2_checkIndex_2214a 8 = .ok (.return_, 1) := by decide +kernel
theorem dJ2_checkBoundsBeginEnd_d044e_0 : decode cJ2_checkBoundsBeginEnd_d044e 0 = .ok (.iload_n 0, 1) := by decide +kernel
theorem dJ2_checkBoundsBeginEnd_d044e_1 : decode cJ2_checkBoundsBeginEnd_d044e 1 = .ok (.iload_n 1, 1) := by decide +kernel
theorem dJ2_checkBoundsBeginEnd_d044e_2 : decode cJ2_checkBoundsBeginEnd_d044e 2 = .ok (.aload_n 2, 1) := by decide +kernel
theorem dJ2_checkBoundsBeginEnd_d044e_3 : decode cJ2_checkBoundsBeginEnd_d044e 3 = .ok (.invokestatic 48, 3) := by decide +kernel
theorem dJ2_checkBoundsBeginEnd_d044e_6 : decode cJ2_checkBoundsBeginEnd_d044e 6 = .ok (.invokestatic 241, 3) := by decide +kernel
theorem dJ2_checkBoundsBeginEnd_d044e_9 : decode cJ2_checkBoundsBeginEnd_d044e 9 = .ok (.return_, 1) := by decide +kernel
theorem dJ2_checkBoundsOffCount_d044e_0 : decode cJ2_checkBoundsOffCount_d044e 0 = .ok (.iload_n 0, 1) := by decide +kernel
theorem dJ2_checkBoundsOffCount_d044e_1 : decode cJ2_checkBoundsOffCount_d044e 1 = .ok (.iload_n 1, 1) := by decide +kernel
theorem dJ2_checkBoundsOffCount_d044e_2 : decode cJ2_checkBoundsOffCount_d044e 2 = .ok (.aload_n 2, 1) := by decide +kernel
theorem dJ2_checkBoundsOffCount_d044e_3 : decode cJ2_checkBoundsOffCount_d044e 3 = .ok (.invokestatic 48, 3) := by decide +kernel
theorem dJ2_checkBoundsOffCount_d044e_6 : decode cJ2_checkBoundsOffCount_d044e 6 = .ok (.invokestatic 419, 3) := by decide +kernel
theorem dJ2_checkBoundsOffCount_d044e_9 : decode cJ2_checkBoundsOffCount_d044e 9 = .ok (.pop, 1) := by decide +kernel
theorem dJ2_checkBoundsOffCount_d044e_10 : decode cJ2_checkBoundsOffCount_d044e 10 = .ok (.return_, 1) := by decide +kernel
theorem dJxa1e45_init_da8c8_0 : decode cJxa1e45_init_da8c8 0 = .ok (.aload_n 0, 1) := by decide +kernel
theorem dJxa1e45_init_da8c8_1 : decode cJxa1e45_init_da8c8 1 = .ok (.invokespecial 1, 3) := by decide +kernel
theorem dJxa1e45_init_da8c8_4 : decode cJxa1e45_init_da8c8 4 = .ok (.return_, 1) := by decide +kernel
theorem dJxc12de_init_da8c8_0 : decode cJxc12de_init_da8c8 0 = .ok (.aload_n 0, 1) := by decide +kernel
theorem dJxc12de_init_da8c8_1 : decode cJxc12de_init_da8c8 1 = .ok (.invokespecial 1, 3) := by decide +kernel
theorem dJxc12de_init_da8c8_4 : decode cJxc12de_init_da8c8 4 = .ok (.aload_n 0, 1) := by decide +kernel
theorem dJxc12de_init_da8c8_5 : decode cJxc12de_init_da8c8 5 = .ok (.iconst 0, 1) := by decide +kernel
theorem dJxc12de_init_da8c8_6 : decode cJxc12de_init_da8c8 6 = .ok (.putfield 7, 3) := by decide +kernel
theorem dJxc12de_init_da8c8_9 : decode cJxc12de_init_da8c8 9 = .ok (.return_, 1) := by decide +kernel
theorem dJx4a65c_init_da8c8_0 : decode cJx4a65c_init_da8c8 0 = .ok (.aload_n 0, 1) := by decide +kernel
theorem dJx4a65c_init_da8c8_1 : decode cJx4a65c_init_da8c8 1 = .ok (.invokespecial 1, 3) := by decide +kernel
theorem dJx4a65c_init_da8c8_4 : decode cJx4a65c_init_da8c8 4 = .ok (.aload_n 0, 1) := by decide +kernel
theorem dJx4a65c_init_da8c8_5 : decode cJx4a65c_init_da8c8 5 = .ok (.getstatic 39, 3) := by decide +kernel
theorem dJx4a65c_init_da8c8_8 : decode cJx4a65c_init_da8c8 8 = .ok (.putfield 9, 3) := by decide +kernel
theorem dJx4a65c_init_da8c8_11 : decode cJx4a65c_init_da8c8 11 = .ok (.return_, 1) := by decide +kernel
theorem dJx4a65c_grow_92f84_0 : decode cJx4a65c_grow_92f84 0 = .ok (.aload_n 0, 1) := by decide +kernel
theorem dJx4a65c_grow_92f84_1 : decode cJx4a65c_grow_92f84 1 = .ok (.getfield 9, 3) := by decide +kernel
theorem dJx4a65c_grow_92f84_4 : decode cJx4a65c_grow_92f84 4 = .ok (.arraylength, 1) := by decide +kernel
theorem dJx4a65c_grow_92f84_5 : decode cJx4a65c_grow_92f84 5 = .ok (.istore_n 2, 1) := by decide +kernel
theorem dJx4a65c_grow_92f84_6 : decode cJx4a65c_grow_92f84 6 = .ok (.iload_n 2, 1) := by decide +kernel
theorem dJx4a65c_grow_92f84_7 : decode cJx4a65c_grow_92f84 7 = .ok (.ifCond .gt 13, 3) := by decide +kernel
theorem dJx4a65c_grow_92f84_10 : decode cJx4a65c_grow_92f84 10 = .ok (.aload_n 0, 1) := by decide +kernel
theorem dJx4a65c_grow_92f84_11 : decode cJx4a65c_grow_92f84 11 = .ok (.getfield 9, 3) := by decide +kernel
theorem dJx4a65c_grow_92f84_14 : decode cJx4a65c_grow_92f84 14 = .ok (.getstatic 39, 3) := by decide +kernel
theorem dJx4a65c_grow_92f84_17 : decode cJx4a65c_grow_92f84 17 = .ok (.if_acmp .eq 28, 3) := by decide +kernel
theorem dJx4a65c_grow_92f84_20 : decode cJx4a65c_grow_92f84 20 = .ok (.iload_n 2, 1) := by decide +kernel
theorem dJx4a65c_grow_92f84_21 : decode cJx4a65c_grow_92f84 21 = .ok (.iload_n 1, 1) := by decide +kernel
theorem dJx4a65c_grow_92f84_22 : decode cJx4a65c_grow_92f84 22 = .ok (.iload_n 2, 1) := by decide +kernel
theorem dJx4a65c_grow_92f84_23 : decode cJx4a65c_grow_92f84 23 = .ok (.isub, 1) := by decide +kernel
theorem dJx4a65c_grow_92f84_24 : decode cJx4a65c_grow_92f84 24 = .ok (.iload_n 2, 1) := by decide +kernel
theorem dJx4a65c_grow_92f84_25 : decode cJx4a65c_grow_92f84 25 = .ok (.iconst 1, 1) := by decide +kernel
theorem dJx4a65c_grow_92f84_26 : decode cJx4a65c_grow_92f84 26 = .ok (.ishr, 1) := by decide +kernel
theorem dJx4a65c_grow_92f84_27 : decode cJx4a65c_grow_92f84 27 = .ok (.invokestatic 73, 3) := by decide +kernel
theorem dJx4a65c_grow_92f84_30 : decode cJx4a65c_grow_92f84 30 = .ok (.istore_n 3, 1) := by decide +kernel
theorem dJx4a65c_grow_92f84_31 : decode cJx4a65c_grow_92f84 31 = .ok (.aload_n 0, 1) := by decide +kernel
theorem dJx4a65c_grow_92f84_32 : decode cJx4a65c_grow_92f84 32 = .ok (.aload_n 0, 1) := by decide +kernel
theorem dJx4a65c_grow_92f84_33 : decode cJx4a65c_grow_92f84 33 = .ok (.getfield 9, 3) := by decide +kernel
theorem dJx4a65c_grow_92f84_36 : decode cJx4a65c_grow_92f84 36 = .ok (.iload_n 3, 1) := by decide +kernel
theorem dJx4a65c_grow_92f84_37 : decode cJx4a65c_grow_92f84 37 = .ok (.invokestatic 66, 3) := by decide +kernel
theorem dJx4a65c_grow_92f84_40 : decode cJx4a65c_grow_92f84 40 = .ok (.dup_x1, 1) := by decide +kernel
theorem dJx4a65c_grow_92f84_41 : decode cJx4a65c_grow_92f84 41 = .ok (.putfield 9, 3) := by decide +kernel
theorem dJx4a65c_grow_92f84_44 : decode cJx4a65c_grow_92f84 44 = .ok (.areturn, 1) := by decide +kernel
theorem dJx4a65c_grow_92f84_45 : decode cJx4a65c_grow_92f84 45 = .ok (.aload_n 0, 1) := by decide +kernel
theorem dJx4a65c_grow_92f84_46 : decode cJx4a65c_grow_92f84 46 = .ok (.bipush 10, 2) := by decide +kernel
theorem dJx4a65c_grow_92f84_48 : decode cJx4a65c_grow_92f84 48 = .ok (.iload_n 1, 1) := by decide +kernel
theorem dJx4a65c_grow_92f84_49 : decode cJx4a65c_grow_92f84 49 = .ok (.invokestatic 79, 3) := by decide +kernel
theorem dJx4a65c_grow_92f84_52 : decode cJx4a65c_grow_92f84 52 = .ok (.anewarray 7, 3) := by decide +kernel
theorem dJx4a65c_grow_92f84_55 : decode cJx4a65c_grow_92f84 55 = .ok (.dup_x1, 1) := by decide +kernel
theorem dJx4a65c_grow_92f84_56 : decode cJx4a65c_grow_92f84 56 = .ok (.putfield 9, 3) := by decide +kernel
theorem dJx4a65c_grow_92f84_59 : decode cJx4a65c_grow_92f84 59 = .ok (.areturn, 1) := by decide +kernel
theorem dJx4a65c_grow_d5877_0 : decode cJx4a65c_grow_d5877 0 = .ok (.aload_n 0, 1) := by decide +kernel
theorem dJx4a65c_grow_d5877_1 : decode cJx4a65c_grow_d5877 1 = .ok (.aload_n 0, 1) := by decide +kernel
theorem dJx4a65c_grow_d5877_2 : decode cJx4a65c_grow_d5877 2 = .ok (.getfield 48, 3) := by decide +kernel
theorem dJx4a65c_grow_d5877_5 : decode cJx4a65c_grow_d5877 5 = .ok (.iconst 1, 1) := by decide +kernel
theorem dJx4a65c_grow_d5877_6 : decode cJx4a65c_grow_d5877 6 = .ok (.iadd, 1) := by decide +kernel
theorem dJx4a65c_grow_d5877_7 : decode cJx4a65c_grow_d5877 7 = .ok (.invokevirtual 69, 3) := by decide +kernel
theorem dJx4a65c_grow_d5877_10 : decode cJx4a65c_grow_d5877 10 = .ok (.areturn, 1) := by decide +kernel
theorem dJx4a65c_size_8abf5_0 : decode cJx4a65c_size_8abf5 0 = .ok (.aload_n 0, 1) := by decide +kernel
theorem dJx4a65c_size_8abf5_1 : decode cJx4a65c_size_8abf5 1 = .ok (.getfield 48, 3) := by decide +kernel
theorem dJx4a65c_size_8abf5_4 : decode cJx4a65c_size_8abf5 4 = .ok (.ireturn, 1) := by decide +kernel
theorem dJx4a65c_elementData_915e3_0 : decode cJx4a65c_elementData_915e3 0 = .ok (.aload_n 0, 1) := by decide +kernel
theorem dJx4a65c_elementData_915e3_1 : decode cJx4a65c_elementData_915e3 1 = .ok (.getfield 9, 3) := by decide +kernel
theorem dJx4a65c_elementData_915e3_4 : decode cJx4a65c_elementData_915e3 4 = .ok (.iload_n 1, 1) := by decide +kernel
theorem dJx4a65c_elementData_915e3_5 : decode cJx4a65c_elementData_915e3 5 = .ok (.aaload, 1) := by decide +kernel
theorem dJx4a65c_elementData_915e3_6 : decode cJx4a65c_elementData_915e3 6 = .ok (.areturn, 1) := by decide +kernel
theorem dJx4a65c_get_915e3_0 : decode cJx4a65c_get_915e3 0 = .ok (.iload_n 1, 1) := by decide +kernel
theorem dJx4a65c_get_915e3_1 : decode cJx4a65c_get_915e3 1 = .ok (.aload_n 0, 1) := by decide +kernel
theorem dJx4a65c_get_915e3_2 : decode cJx4a65c_get_915e3 2 = .ok (.getfield 48, 3) := by decide +kernel
theorem dJx4a65c_get_915e3_5 : decode cJx4a65c_get_915e3 5 = .ok (.invokestatic 118, 3) := by decide +kernel
theorem dJx4a65c_get_915e3_8 : decode cJx4a65c_get_915e3 8 = .ok (.pop, 1) := by decide +kernel
theorem dJx4a65c_get_915e3_9 : decode cJx4a65c_get_915e3 9 = .ok (.aload_n 0, 1) := by decide +kernel
theorem dJx4a65c_get_915e3_10 : decode cJx4a65c_get_915e3 10 = .ok (.iload_n 1, 1) := by decide +kernel
theorem dJx4a65c_get_915e3_11 : decode cJx4a65c_get_915e3 11 = .ok (.invokevirtual 123, 3) := by decide +kernel
theorem dJx4a65c_get_915e3_14 : decode cJx4a65c_get_915e3 14 = .ok (.areturn, 1) := by decide +kernel
theorem dJx4a65c_add_72be8_0 : decode cJx4a65c_add_72be8 0 = .ok (.iload_n 3, 1) := by decide +kernel
theorem dJx4a65c_add_72be8_1 : decode cJx4a65c_add_72be8 1 = .ok (.aload_n 2, 1) := by decide +kernel
theorem dJx4a65c_add_72be8_2 : decode cJx4a65c_add_72be8 2 = .ok (.arraylength, 1) := by decide +kernel
theorem dJx4a65c_add_72be8_3 : decode cJx4a65c_add_72be8 3 = .ok (.if_icmp .ne 8, 3) := by decide +kernel
theorem dJx4a65c_add_72be8_6 : decode cJx4a65c_add_72be8 6 = .ok (.aload_n 0, 1) := by decide +kernel
theorem dJx4a65c_add_72be8_7 : decode cJx4a65c_add_72be8 7 = .ok (.invokevirtual 129, 3) := by decide +kernel
theorem dJx4a65c_add_72be8_10 : decode cJx4a65c_add_72be8 10 = .ok (.astore_n 2, 1) := by decide +kernel
theorem dJx4a65c_add_72be8_11 : decode cJx4a65c_add_72be8 11 = .ok (.aload_n 2, 1) := by decide +kernel
theorem dJx4a65c_add_72be8_12 : decode cJx4a65c_add_72be8 12 = .ok (.iload_n 3, 1) := by decide +kernel
theorem dJx4a65c_add_72be8_13 : decode cJx4a65c_add_72be8 13 = .ok (.aload_n 1, 1) := by decide +kernel
theorem dJx4a65c_add_72be8_14 : decode cJx4a65c_add_72be8 14 = .ok (.aastore, 1) := by decide +kernel
theorem dJx4a65c_add_72be8_15 : decode cJx4a65c_add_72be8 15 = .ok (.aload_n 0, 1) := by decide +kernel
theorem dJx4a65c_add_72be8_16 : decode cJx4a65c_add_72be8 16 = .ok (.iload_n 3, 1) := by decide +kernel
theorem dJx4a65c_add_72be8_17 : decode cJx4a65c_add_72be8 17 = .ok (.iconst 1, 1) := by decide +kernel
theorem dJx4a65c_add_72be8_18 : decode cJx4a65c_add_72be8 18 = .ok (.iadd, 1) := by decide +kernel
theorem dJx4a65c_add_72be8_19 : decode cJx4a65c_add_72be8 19 = .ok (.putfield 48, 3) := by decide +kernel
theorem dJx4a65c_add_72be8_22 : decode cJx4a65c_add_72be8 22 = .ok (.return_, 1) := by decide +kernel
theorem dJx4a65c_add_9ea2d_0 : decode cJx4a65c_add_9ea2d 0 = .ok (.aload_n 0, 1) := by decide +kernel
theorem dJx4a65c_add_9ea2d_1 : decode cJx4a65c_add_9ea2d 1 = .ok (.dup, 1) := by decide +kernel
theorem dJx4a65c_add_9ea2d_2 : decode cJx4a65c_add_9ea2d 2 = .ok (.getfield 63, 3) := by decide +kernel
theorem dJx4a65c_add_9ea2d_5 : decode cJx4a65c_add_9ea2d 5 = .ok (.iconst 1, 1) := by decide +kernel
theorem dJx4a65c_add_9ea2d_6 : decode cJx4a65c_add_9ea2d 6 = .ok (.iadd, 1) := by decide +kernel
theorem dJx4a65c_add_9ea2d_7 : decode cJx4a65c_add_9ea2d 7 = .ok (.putfield 63, 3) := by decide +kernel
theorem dJx4a65c_add_9ea2d_10 : decode cJx4a65c_add_9ea2d 10 = .ok (.aload_n 0, 1) := by decide +kernel
theorem dJx4a65c_add_9ea2d_11 : decode cJx4a65c_add_9ea2d 11 = .ok (.aload_n 1, 1) := by decide +kernel
theorem dJx4a65c_add_9ea2d_12 : decode cJx4a65c_add_9ea2d 12 = .ok (.aload_n 0, 1) := by decide +kernel
theorem dJx4a65c_add_9ea2d_13 : decode cJx4a65c_add_9ea2d 13 = .ok (.getfield 9, 3) := by decide +kernel
theorem dJx4a65c_add_9ea2d_16 : decode cJx4a65c_add_9ea2d 16 = .ok (.aload_n 0, 1) := by decide +kernel
theorem dJx4a65c_add_9ea2d_17 : decode cJx4a65c_add_9ea2d 17 = .ok (.getfield 48, 3) := by decide +kernel
theorem dJx4a65c_add_9ea2d_20 : decode cJx4a65c_add_9ea2d 20 = .ok (.invokevirtual 131, 3) := by decide +kernel
theorem dJx4a65c_add_9ea2d_23 : decode cJx4a65c_add_9ea2d 23 = .ok (.iconst 1, 1) := by decide +kernel
theorem dJx4a65c_add_9ea2d_24 : decode cJx4a65c_add_9ea2d 24 = .ok (.ireturn, 1) := by decide +kernel
theorem dJx4a65c_remove_915e3_0 : decode cJx4a65c_remove_915e3 0 = .ok (.iload_n 1, 1) := by decide +kernel
theorem dJx4a65c_remove_915e3_1 : decode cJx4a65c_remove_915e3 1 = .ok (.aload_n 0, 1) := by decide +kernel
theorem dJx4a65c_remove_915e3_2 : decode cJx4a65c_remove_915e3 2 = .ok (.getfield 48, 3) := by decide +kernel
theorem dJx4a65c_remove_915e3_5 : decode cJx4a65c_remove_915e3 5 = .ok (.invokestatic 118, 3) := by decide +kernel
theorem dJx4a65c_remove_915e3_8 : decode cJx4a65c_remove_915e3 8 = .ok (.pop, 1) := by decide +kernel
theorem dJx4a65c_remove_915e3_9 : decode cJx4a65c_remove_915e3 9 = .ok (.aload_n 0, 1) := by decide +kernel
theorem dJx4a65c_remove_915e3_10 : decode cJx4a65c_remove_915e3 10 = .ok (.getfield 9, 3) := by decide +kernel
theorem dJx4a65c_remove_915e3_13 : decode cJx4a65c_remove_915e3 13 = .ok (.astore_n 2, 1) := by decide +kernel
theorem dJx4a65c_remove_915e3_14 : decode cJx4a65c_remove_915e3 14 = .ok (.aload_n 2, 1) := by decide +kernel
theorem dJx4a65c_remove_915e3_15 : decode cJx4a65c_remove_915e3 15 = .ok (.iload_n 1, 1) := by decide +kernel
theorem dJx4a65c_remove_915e3_16 : decode cJx4a65c_remove_915e3 16 = .ok (.aaload, 1) := by decide +kernel
theorem dJx4a65c_remove_915e3_17 : decode cJx4a65c_remove_915e3 17 = .ok (.astore_n 3, 1) := by decide +kernel
theorem dJx4a65c_remove_915e3_18 : decode cJx4a65c_remove_915e3 18 = .ok (.aload_n 0, 1) := by decide +kernel
theorem dJx4a65c_remove_915e3_19 : decode cJx4a65c_remove_915e3 19 = .ok (.aload_n 2, 1) := by decide +kernel
theorem dJx4a65c_remove_915e3_20 : decode cJx4a65c_remove_915e3 20 = .ok (.iload_n 1, 1) := by decide +kernel
theorem dJx4a65c_remove_915e3_21 : decode cJx4a65c_remove_915e3 21 = .ok (.invokevirtual 144, 3) := by decide +kernel
theorem dJx4a65c_remove_915e3_24 : decode cJx4a65c_remove_915e3 24 = .ok (.aload_n 3, 1) := by decide +kernel
theorem dJx4a65c_remove_915e3_25 : decode cJx4a65c_remove_915e3 25 = .ok (.areturn, 1) := by decide +kernel
theorem dJx4a65c_fastRemove_b59b0_0 : decode cJx4a65c_fastRemove_b59b0 0 = .ok (.aload_n 0, 1) := by decide +kernel
theorem dJx4a65c_fastRemove_b59b0_1 : decode cJx4a65c_fastRemove_b59b0 1 = .ok (.dup, 1) := by decide +kernel
theorem dJx4a65c_fastRemove_b59b0_2 : decode cJx4a65c_fastRemove_b59b0 2 = .ok (.getfield 63, 3) := by decide +kernel
theorem dJx4a65c_fastRemove_b59b0_5 : decode cJx4a65c_fastRemove_b59b0 5 = .ok (.iconst 1, 1) := by decide +kernel
theorem dJx4a65c_fastRemove_b59b0_6 : decode cJx4a65c_fastRemove_b59b0 6 = .ok (.iadd, 1) := by decide +kernel
theorem dJx4a65c_fastRemove_b59b0_7 : decode cJx4a65c_fastRemove_b59b0 7 = .ok (.putfield 63, 3) := by decide +kernel
theorem dJx4a65c_fastRemove_b59b0_10 : decode cJx4a65c_fastRemove_b59b0 10 = .ok (.aload_n 0, 1) := by decide +kernel
theorem dJx4a65c_fastRemove_b59b0_11 : decode cJx4a65c_fastRemove_b59b0 11 = .ok (.getfield 48, 3) := by decide +kernel
theorem dJx4a65c_fastRemove_b59b0_14 : decode cJx4a65c_fastRemove_b59b0 14 = .ok (.iconst 1, 1) := by decide +kernel
theorem dJx4a65c_fastRemove_b59b0_15 : decode cJx4a65c_fastRemove_b59b0 15 = .ok (.isub, 1) := by decide +kernel
theorem dJx4a65c_fastRemove_b59b0_16 : decode cJx4a65c_fastRemove_b59b0 16 = .ok (.dup, 1) := by decide +kernel
theorem dJx4a65c_fastRemove_b59b0_17 : decode cJx4a65c_fastRemove_b59b0 17 = .ok (.istore_n 3, 1) := by decide +kernel
theorem dJx4a65c_fastRemove_b59b0_18 : decode cJx4a65c_fastRemove_b59b0 18 = .ok (.iload_n 2, 1) := by decide +kernel
theorem dJx4a65c_fastRemove_b59b0_19 : decode cJx4a65c_fastRemove_b59b0 19 = .ok (.if_icmp .le 15, 3) := by decide +kernel
theorem dJx4a65c_fastRemove_b59b0_22 : decode cJx4a65c_fastRemove_b59b0 22 = .ok (.aload_n 1, 1) := by decide +kernel
theorem dJx4a65c_fastRemove_b59b0_23 : decode cJx4a65c_fastRemove_b59b0 23 = .ok (.iload_n 2, 1) := by decide +kernel
theorem dJx4a65c_fastRemove_b59b0_24 : decode cJx4a65c_fastRemove_b59b0 24 = .ok (.iconst 1, 1) := by decide +kernel
theorem dJx4a65c_fastRemove_b59b0_25 : decode cJx4a65c_fastRemove_b59b0 25 = .ok (.iadd, 1) := by decide +kernel
theorem dJx4a65c_fastRemove_b59b0_26 : decode cJx4a65c_fastRemove_b59b0 26 = .ok (.aload_n 1, 1) := by decide +kernel
theorem dJx4a65c_fastRemove_b59b0_27 : decode cJx4a65c_fastRemove_b59b0 27 = .ok (.iload_n 2, 1) := by decide +kernel
theorem dJx4a65c_fastRemove_b59b0_28 : decode cJx4a65c_fastRemove_b59b0 28 = .ok (.iload_n 3, 1) := by decide +kernel
theorem dJx4a65c_fastRemove_b59b0_29 : decode cJx4a65c_fastRemove_b59b0 29 = .ok (.iload_n 2, 1) := by decide +kernel
theorem dJx4a65c_fastRemove_b59b0_30 : decode cJx4a65c_fastRemove_b59b0 30 = .ok (.isub, 1) := by decide +kernel
theorem dJx4a65c_fastRemove_b59b0_31 : decode cJx4a65c_fastRemove_b59b0 31 = .ok (.invokestatic 112, 3) := by decide +kernel
theorem dJx4a65c_fastRemove_b59b0_34 : decode cJx4a65c_fastRemove_b59b0 34 = .ok (.aload_n 1, 1) := by decide +kernel
theorem dJx4a65c_fastRemove_b59b0_35 : decode cJx4a65c_fastRemove_b59b0 35 = .ok (.aload_n 0, 1) := by decide +kernel
theorem dJx4a65c_fastRemove_b59b0_36 : decode cJx4a65c_fastRemove_b59b0 36 = .ok (.iload_n 3, 1) := by decide +kernel
theorem dJx4a65c_fastRemove_b59b0_37 : decode cJx4a65c_fastRemove_b59b0 37 = .ok (.dup_x1, 1) := by decide +kernel
theorem dJx4a65c_fastRemove_b59b0_38 : decode cJx4a65c_fastRemove_b59b0 38 = .ok (.putfield 48, 3) := by decide +kernel
theorem dJx4a65c_fastRemove_b59b0_41 : decode cJx4a65c_fastRemove_b59b0 41 = .ok (.aconst_null, 1) := by decide +kernel
theorem dJx4a65c_fastRemove_b59b0_42 : decode cJx4a65c_fastRemove_b59b0 42 = .ok (.aastore, 1) := by decide +kernel
theorem dJx4a65c_fastRemove_b59b0_43 : decode cJx4a65c_fastRemove_b59b0 43 = .ok (.return_, 1) := by decide +kernel
theorem dJx4a65c_clear_da8c8_0 : decode cJx4a65c_clear_da8c8 0 = .ok (.aload_n 0, 1) := by decide +kernel
theorem dJx4a65c_clear_da8c8_1 : decode cJx4a65c_clear_da8c8 1 = .ok (.dup, 1) := by decide +kernel
theorem dJx4a65c_clear_da8c8_2 : decode cJx4a65c_clear_da8c8 2 = .ok (.getfield 63, 3) := by decide +kernel
theorem dJx4a65c_clear_da8c8_5 : decode cJx4a65c_clear_da8c8 5 = .ok (.iconst 1, 1) := by decide +kernel
theorem dJx4a65c_clear_da8c8_6 : decode cJx4a65c_clear_da8c8 6 = .ok (.iadd, 1) := by decide +kernel
theorem dJx4a65c_clear_da8c8_7 : decode cJx4a65c_clear_da8c8 7 = .ok (.putfield 63, 3) := by decide +kernel
theorem dJx4a65c_clear_da8c8_10 : decode cJx4a65c_clear_da8c8 10 = .ok (.aload_n 0, 1) := by decide +kernel
theorem dJx4a65c_clear_da8c8_11 : decode cJx4a65c_clear_da8c8 11 = .ok (.getfield 9, 3) := by decide +kernel
theorem dJx4a65c_clear_da8c8_14 : decode cJx4a65c_clear_da8c8 14 = .ok (.astore_n 1, 1) := by decide +kernel
theorem dJx4a65c_clear_da8c8_15 : decode cJx4a65c_clear_da8c8 15 = .ok (.aload_n 0, 1) := by decide +kernel
theorem dJx4a65c_clear_da8c8_16 : decode cJx4a65c_clear_da8c8 16 = .ok (.getfield 48, 3) := by decide +kernel
theorem dJx4a65c_clear_da8c8_19 : decode cJx4a65c_clear_da8c8 19 = .ok (.istore_n 2, 1) := by decide +kernel
theorem dJx4a65c_clear_da8c8_20 : decode cJx4a65c_clear_da8c8 20 = .ok (.aload_n 0, 1) := by decide +kernel
theorem dJx4a65c_clear_da8c8_21 : decode cJx4a65c_clear_da8c8 21 = .ok (.iconst 0, 1) := by decide +kernel
theorem dJx4a65c_clear_da8c8_22 : decode cJx4a65c_clear_da8c8 22 = .ok (.dup_x1, 1) := by decide +kernel
theorem dJx4a65c_clear_da8c8_23 : decode cJx4a65c_clear_da8c8 23 = .ok (.putfield 48, 3) := by decide +kernel
theorem dJx4a65c_clear_da8c8_26 : decode cJx4a65c_clear_da8c8 26 = .ok (.istore_n 3, 1) := by decide +kernel
theorem dJx4a65c_clear_da8c8_27 : decode cJx4a65c_clear_da8c8 27 = .ok (.iload_n 3, 1) := by decide +kernel
theorem dJx4a65c_clear_da8c8_28 : decode cJx4a65c_clear_da8c8 28 = .ok (.iload_n 2, 1) := by decide +kernel
theorem dJx4a65c_clear_da8c8_29 : decode cJx4a65c_clear_da8c8 29 = .ok (.if_icmp .ge 13, 3) := by decide +kernel
theorem dJx4a65c_clear_da8c8_32 : decode cJx4a65c_clear_da8c8 32 = .ok (.aload_n 1, 1) := by decide +kernel
theorem dJx4a65c_clear_da8c8_33 : decode cJx4a65c_clear_da8c8 33 = .ok (.iload_n 3, 1) := by decide +kernel
theorem dJx4a65c_clear_da8c8_34 : decode cJx4a65c_clear_da8c8 34 = .ok (.aconst_null, 1) := by decide +kernel
theorem dJx4a65c_clear_da8c8_35 : decode cJx4a65c_clear_da8c8 35 = .ok (.aastore, 1) := by decide +kernel
theorem dJx4a65c_clear_da8c8_36 : decode cJx4a65c_clear_da8c8 36 = .ok (.iinc 3 1, 3) := by decide +kernel
theorem dJx4a65c_clear_da8c8_39 : decode cJx4a65c_clear_da8c8 39 = .ok (.goto (-12), 3) := by decide +kernel
theorem dJx4a65c_clear_da8c8_42 : decode cJx4a65c_clear_da8c8 42 = .ok (.return_, 1) := by decide +kernel
theorem dJ7_fill_d0a16_0 : decode cJ7_fill_d0a16 0 = .ok (.iconst 0, 1) := by decide +kernel
theorem dJ7_fill_d0a16_1 : decode cJ7_fill_d0a16 1 = .ok (.istore_n 3, 1) := by decide +kernel
theorem dJ7_fill_d0a16_2 : decode cJ7_fill_d0a16 2 = .ok (.aload_n 0, 1) := by decide +kernel
theorem dJ7_fill_d0a16_3 : decode cJ7_fill_d0a16 3 = .ok (.arraylength, 1) := by decide +kernel
theorem dJ7_fill_d0a16_4 : decode cJ7_fill_d0a16 4 = .ok (.istore 4, 2) := by decide +kernel
theorem dJ7_fill_d0a16_6 : decode cJ7_fill_d0a16 6 = .ok (.iload_n 3, 1) := by decide +kernel
theorem dJ7_fill_d0a16_7 : decode cJ7_fill_d0a16 7 = .ok (.iload 4, 2) := by decide +kernel
theorem dJ7_fill_d0a16_9 : decode cJ7_fill_d0a16 9 = .ok (.if_icmp .ge 13, 3) := by decide +kernel
theorem dJ7_fill_d0a16_12 : decode cJ7_fill_d0a16 12 = .ok (.aload_n 0, 1) := by decide +kernel
theorem dJ7_fill_d0a16_13 : decode cJ7_fill_d0a16 13 = .ok (.iload_n 3, 1) := by decide +kernel
theorem dJ7_fill_d0a16_14 : decode cJ7_fill_d0a16 14 = .ok (.lload_n 1, 1) := by decide +kernel
theorem dJ7_fill_d0a16_15 : decode cJ7_fill_d0a16 15 = .ok (.lastore, 1) := by decide +kernel
theorem dJ7_fill_d0a16_16 : decode cJ7_fill_d0a16 16 = .ok (.iinc 3 1, 3) := by decide +kernel
theorem dJ7_fill_d0a16_19 : decode cJ7_fill_d0a16 19 = .ok (.goto (-13), 3) := by decide +kernel
theorem dJ7_fill_d0a16_22 : decode cJ7_fill_d0a16 22 = .ok (.return_, 1) := by decide +kernel
theorem dJ7_fill_53178_0 : decode cJ7_fill_53178 0 = .ok (.iconst 0, 1) := by decide +kernel
theorem dJ7_fill_53178_1 : decode cJ7_fill_53178 1 = .ok (.istore_n 2, 1) := by decide +kernel
theorem dJ7_fill_53178_2 : decode cJ7_fill_53178 2 = .ok (.aload_n 0, 1) := by decide +kernel
theorem dJ7_fill_53178_3 : decode cJ7_fill_53178 3 = .ok (.arraylength, 1) := by decide +kernel
theorem dJ7_fill_53178_4 : decode cJ7_fill_53178 4 = .ok (.istore_n 3, 1) := by decide +kernel
theorem dJ7_fill_53178_5 : decode cJ7_fill_53178 5 = .ok (.iload_n 2, 1) := by decide +kernel
theorem dJ7_fill_53178_6 : decode cJ7_fill_53178 6 = .ok (.iload_n 3, 1) := by decide +kernel
theorem dJ7_fill_53178_7 : decode cJ7_fill_53178 7 = .ok (.if_icmp .ge 13, 3) := by decide +kernel
theorem dJ7_fill_53178_10 : decode cJ7_fill_53178 10 = .ok (.aload_n 0, 1) := by decide +kernel
theorem dJ7_fill_53178_11 : decode cJ7_fill_53178 11 = .ok (.iload_n 2, 1) := by decide +kernel
theorem dJ7_fill_53178_12 : decode cJ7_fill_53178 12 = .ok (.iload_n 1, 1) := by decide +kernel
theorem dJ7_fill_53178_13 : decode cJ7_fill_53178 13 = .ok (.iastore, 1) := by decide +kernel
theorem dJ7_fill_53178_14 : decode cJ7_fill_53178 14 = .ok (.iinc 2 1, 3) := by decide +kernel
theorem dJ7_fill_53178_17 : decode cJ7_fill_53178 17 = .ok (.goto (-12), 3) := by decide +kernel
theorem dJ7_fill_53178_20 : decode cJ7_fill_53178 20 = .ok (.return_, 1) := by decide +kernel
theorem dJ7_copyOf_1904c_0 : decode cJ7_copyOf_1904c 0 = .ok (.aload_n 0, 1) := by decide +kernel
theorem dJ7_copyOf_1904c_1 : decode cJ7_copyOf_1904c 1 = .ok (.iload_n 1, 1) := by decide +kernel
theorem dJ7_copyOf_1904c_2 : decode cJ7_copyOf_1904c 2 = .ok (.aload_n 0, 1) := by decide +kernel
theorem dJ7_copyOf_1904c_3 : decode cJ7_copyOf_1904c 3 = .ok (.invokevirtual 86, 3) := by decide +kernel
theorem dJ7_copyOf_1904c_6 : decode cJ7_copyOf_1904c 6 = .ok (.invokestatic 300, 3) := by decide +kernel
theorem dJ7_copyOf_1904c_9 : decode cJ7_copyOf_1904c 9 = .ok (.areturn, 1) := by decide +kernel
theorem dJ7_copyOf_6403c_0 : decode cJ7_copyOf_6403c 0 = .ok (.aload_n 2, 1) := by decide +kernel
theorem dJ7_copyOf_6403c_1 : decode cJ7_copyOf_6403c 1 = .ok (.ldc 110, 2) := by decide +kernel
theorem dJ7_copyOf_6403c_3 : decode cJ7_copyOf_6403c 3 = .ok (.if_acmp .ne 10, 3) := by decide +kernel
theorem dJ7_copyOf_6403c_6 : decode cJ7_copyOf_6403c 6 = .ok (.iload_n 1, 1) := by decide +kernel
theorem dJ7_copyOf_6403c_7 : decode cJ7_copyOf_6403c 7 = .ok (.anewarray 2, 3) := by decide +kernel
theorem dJ7_copyOf_6403c_10 : decode cJ7_copyOf_6403c 10 = .ok (.goto 14, 3) := by decide +kernel
theorem dJ7_copyOf_6403c_13 : decode cJ7_copyOf_6403c 13 = .ok (.aload_n 2, 1) := by decide +kernel
theorem dJ7_copyOf_6403c_14 : decode cJ7_copyOf_6403c 14 = .ok (.invokevirtual 90, 3) := by decide +kernel
theorem dJ7_copyOf_6403c_17 : decode cJ7_copyOf_6403c 17 = .ok (.iload_n 1, 1) := by decide +kernel
theorem dJ7_copyOf_6403c_18 : decode cJ7_copyOf_6403c 18 = .ok (.invokestatic 95, 3) := by decide +kernel
theorem dJ7_copyOf_6403c_21 : decode cJ7_copyOf_6403c 21 = .ok (.checkcast 110, 3) := by decide +kernel
theorem dJ7_copyOf_6403c_24 : decode cJ7_copyOf_6403c 24 = .ok (.astore_n 3, 1) := by decide +kernel
theorem dJ7_copyOf_6403c_25 : decode cJ7_copyOf_6403c 25 = .ok (.aload_n 0, 1) := by decide +kernel
theorem dJ7_copyOf_6403c_26 : decode cJ7_copyOf_6403c 26 = .ok (.iconst 0, 1) := by decide +kernel
theorem dJ7_copyOf_6403c_27 : decode cJ7_copyOf_6403c 27 = .ok (.aload_n 3, 1) := by decide +kernel
theorem dJ7_copyOf_6403c_28 : decode cJ7_copyOf_6403c 28 = .ok (.iconst 0, 1) := by decide +kernel
theorem dJ7_copyOf_6403c_29 : decode cJ7_copyOf_6403c 29 = .ok (.aload_n 0, 1) := by decide +kernel
theorem dJ7_copyOf_6403c_30 : decode cJ7_copyOf_6403c 30 = .ok (.arraylength, 1) := by decide +kernel
theorem dJ7_copyOf_6403c_31 : decode cJ7_copyOf_6403c 31 = .ok (.iload_n 1, 1) := by decide +kernel
theorem dJ7_copyOf_6403c_32 : decode cJ7_copyOf_6403c 32 = .ok (.invokestatic 304, 3) := by decide +kernel
theorem dJ7_copyOf_6403c_35 : decode cJ7_copyOf_6403c 35 = .ok (.invokestatic 150, 3) := by decide +kernel
theorem dJ7_copyOf_6403c_38 : decode cJ7_copyOf_6403c 38 = .ok (.aload_n 3, 1) := by decide +kernel
theorem dJ7_copyOf_6403c_39 : decode cJ7_copyOf_6403c 39 = .ok (.areturn, 1) := by decide +kernel
theorem dJ7_copyOf_9075b_0 : decode cJ7_copyOf_9075b 0 = .ok (.iload_n 1, 1) := by decide +kernel
theorem dJ7_copyOf_9075b_1 : decode cJ7_copyOf_9075b 1 = .ok (.aload_n 0, 1) := by decide +kernel
theorem dJ7_copyOf_9075b_2 : decode cJ7_copyOf_9075b 2 = .ok (.arraylength, 1) := by decide +kernel
theorem dJ7_copyOf_9075b_3 : decode cJ7_copyOf_9075b 3 = .ok (.if_icmp .ne 11, 3) := by decide +kernel
theorem dJ7_copyOf_9075b_6 : decode cJ7_copyOf_9075b 6 = .ok (.aload_n 0, 1) := by decide +kernel
theorem dJ7_copyOf_9075b_7 : decode cJ7_copyOf_9075b 7 = .ok (.invokevirtual 310, 3) := by decide +kernel
theorem dJ7_copyOf_9075b_10 : decode cJ7_copyOf_9075b 10 = .ok (.checkcast 311, 3) := by decide +kernel
theorem dJ7_copyOf_9075b_13 : decode cJ7_copyOf_9075b 13 = .ok (.areturn, 1) := by decide +kernel
theorem dJ7_copyOf_9075b_14 : decode cJ7_copyOf_9075b 14 = .ok (.iload_n 1, 1) := by decide +kernel
theorem dJ7_copyOf_9075b_15 : decode cJ7_copyOf_9075b 15 = .ok (.newarray .byte, 2) := by decide +kernel
theorem dJ7_copyOf_9075b_17 : decode cJ7_copyOf_9075b 17 = .ok (.astore_n 2, 1) := by decide +kernel
theorem dJ7_copyOf_9075b_18 : decode cJ7_copyOf_9075b 18 = .ok (.aload_n 0, 1) := by decide +kernel
theorem dJ7_copyOf_9075b_19 : decode cJ7_copyOf_9075b 19 = .ok (.iconst 0, 1) := by decide +kernel
theorem dJ7_copyOf_9075b_20 : decode cJ7_copyOf_9075b 20 = .ok (.aload_n 2, 1) := by decide +kernel
theorem dJ7_copyOf_9075b_21 : decode cJ7_copyOf_9075b 21 = .ok (.iconst 0, 1) := by decide +kernel
theorem dJ7_copyOf_9075b_22 : decode cJ7_copyOf_9075b 22 = .ok (.aload_n 0, 1) := by decide +kernel
theorem dJ7_copyOf_9075b_23 : decode cJ7_copyOf_9075b 23 = .ok (.arraylength, 1) := by decide +kernel
theorem dJ7_copyOf_9075b_24 : decode cJ7_copyOf_9075b 24 = .ok (.iload_n 1, 1) := by decide +kernel
theorem dJ7_copyOf_9075b_25 : decode cJ7_copyOf_9075b 25 = .ok (.invokestatic 304, 3) := by decide +kernel
theorem dJ7_copyOf_9075b_28 : decode cJ7_copyOf_9075b 28 = .ok (.invokestatic 150, 3) := by decide +kernel
theorem dJ7_copyOf_9075b_31 : decode cJ7_copyOf_9075b 31 = .ok (.aload_n 2, 1) := by decide +kernel
theorem dJ7_copyOf_9075b_32 : decode cJ7_copyOf_9075b 32 = .ok (.areturn, 1) := by decide +kernel
theorem dJ7_checkLength_df160_0 : decode cJ7_checkLength_df160 0 = .ok (.iload_n 1, 1) := by decide +kernel
theorem dJ7_checkLength_df160_1 : decode cJ7_checkLength_df160 1 = .ok (.iload_n 0, 1) := by decide +kernel
theorem dJ7_checkLength_df160_2 : decode cJ7_checkLength_df160 2 = .ok (.if_icmp .ge 35, 3) := by decide +kernel
theorem dJ7_checkLength_df160_5 : decode cJ7_checkLength_df160 5 = .ok (.new 43, 3) := by decide +kernel
theorem dJ7_checkLength_df160_8 : decode cJ7_checkLength_df160 8 = .ok (.dup, 1) := by decide +kernel
theorem dJ7_checkLength_df160_9 : decode cJ7_checkLength_df160 9 = .ok (.new 45, 3) := by decide +kernel
theorem dJ7_checkLength_df160_12 : decode cJ7_checkLength_df160 12 = .ok (.dup, 1) := by decide +kernel
theorem dJ7_checkLength_df160_13 : decode cJ7_checkLength_df160 13 = .ok (.invokespecial 47, 3) := by decide +kernel
theorem dJ7_checkLength_df160_16 : decode cJ7_checkLength_df160 16 = .ok (.iload_n 0, 1) := by decide +kernel
theorem dJ7_checkLength_df160_17 : decode cJ7_checkLength_df160 17 = .ok (.invokevirtual 54, 3) := by decide +kernel
theorem dJ7_checkLength_df160_20 : decode cJ7_checkLength_df160 20 = .ok (.ldc_w 337, 3) := by decide +kernel
theorem dJ7_checkLength_df160_23 : decode cJ7_checkLength_df160 23 = .ok (.invokevirtual 50, 3) := by decide +kernel
theorem dJ7_checkLength_df160_26 : decode cJ7_checkLength_df160 26 = .ok (.iload_n 1, 1) := by decide +kernel
theorem dJ7_checkLength_df160_27 : decode cJ7_checkLength_df160 27 = .ok (.invokevirtual 54, 3) := by decide +kernel
theorem dJ7_checkLength_df160_30 : decode cJ7_checkLength_df160 30 = .ok (.invokevirtual 61, 3) := by decide +kernel
theorem dJ7_checkLength_df160_33 : decode cJ7_checkLength_df160 33 = .ok (.invokespecial 65, 3) := by decide +kernel
theorem dJ7_checkLength_df160_36 : decode cJ7_checkLength_df160 36 = .ok (.athrow, 1) := by decide +kernel
theorem dJ7_checkLength_df160_37 : decode cJ7_checkLength_df160 37 = .ok (.return_, 1) := by decide +kernel
theorem dJ7_copyOfRange_39247_0 : decode cJ7_copyOfRange_39247 0 = .ok (.iload_n 1, 1) := by decide +kernel
theorem dJ7_copyOfRange_39247_1 : decode cJ7_copyOfRange_39247 1 = .ok (.ifCond .ne 9, 3) := by decide +kernel
theorem dJ7_copyOfRange_39247_4 : decode cJ7_copyOfRange_39247 4 = .ok (.iload_n 2, 1) := by decide +kernel
theorem dJ7_copyOfRange_39247_5 : decode cJ7_copyOfRange_39247 5 = .ok (.aload_n 0, 1) := by decide +kernel
theorem dJ7_copyOfRange_39247_6 : decode cJ7_copyOfRange_39247 6 = .ok (.arraylength, 1) := by decide +kernel
theorem dJ7_copyOfRange_39247_7 : decode cJ7_copyOfRange_39247 7 = .ok (.if_icmp .eq 10, 3) := by decide +kernel
theorem dJ7_copyOfRange_39247_10 : decode cJ7_copyOfRange_39247 10 = .ok (.aload_n 0, 1) := by decide +kernel
theorem dJ7_copyOfRange_39247_11 : decode cJ7_copyOfRange_39247 11 = .ok (.iload_n 1, 1) := by decide +kernel
theorem dJ7_copyOfRange_39247_12 : decode cJ7_copyOfRange_39247 12 = .ok (.iload_n 2, 1) := by decide +kernel
theorem dJ7_copyOfRange_39247_13 : decode cJ7_copyOfRange_39247 13 = .ok (.invokestatic 339, 3) := by decide +kernel
theorem dJ7_copyOfRange_39247_16 : decode cJ7_copyOfRange_39247 16 = .ok (.areturn, 1) := by decide +kernel
theorem dJ7_copyOfRange_39247_17 : decode cJ7_copyOfRange_39247 17 = .ok (.aload_n 0, 1) := by decide +kernel
theorem dJ7_copyOfRange_39247_18 : decode cJ7_copyOfRange_39247 18 = .ok (.invokevirtual 310, 3) := by decide +kernel
theorem dJ7_copyOfRange_39247_21 : decode cJ7_copyOfRange_39247 21 = .ok (.checkcast 311, 3) := by decide +kernel
theorem dJ7_copyOfRange_39247_24 : decode cJ7_copyOfRange_39247 24 = .ok (.areturn, 1) := by decide +kernel
theorem dJ7_copyOfRangeByte_39247_0 : decode cJ7_copyOfRangeByte_39247 0 = .ok (.iload_n 1, 1) := by decide +kernel
theorem dJ7_copyOfRangeByte_39247_1 : decode cJ7_copyOfRangeByte_39247 1 = .ok (.iload_n 2, 1) := by decide +kernel
theorem dJ7_copyOfRangeByte_39247_2 : decode cJ7_copyOfRangeByte_39247 2 = .ok (.invokestatic 343, 3) := by decide +kernel
theorem dJ7_copyOfRangeByte_39247_5 : decode cJ7_copyOfRangeByte_39247 5 = .ok (.iload_n 2, 1) := by decide +kernel
theorem dJ7_copyOfRangeByte_39247_6 : decode cJ7_copyOfRangeByte_39247 6 = .ok (.iload_n 1, 1) := by decide +kernel
theorem dJ7_copyOfRangeByte_39247_7 : decode cJ7_copyOfRangeByte_39247 7 = .ok (.isub, 1) := by decide +kernel
theorem dJ7_copyOfRangeByte_39247_8 : decode cJ7_copyOfRangeByte_39247 8 = .ok (.istore_n 3, 1) := by decide +kernel
theorem dJ7_copyOfRangeByte_39247_9 : decode cJ7_copyOfRangeByte_39247 9 = .ok (.iload_n 3, 1) := by decide +kernel
theorem dJ7_copyOfRangeByte_39247_10 : decode cJ7_copyOfRangeByte_39247 10 = .ok (.newarray .byte, 2) := by decide +kernel
theorem dJ7_copyOfRangeByte_39247_12 : decode cJ7_copyOfRangeByte_39247 12 = .ok (.astore 4, 2) := by decide +kernel
theorem dJ7_copyOfRangeByte_39247_14 : decode cJ7_copyOfRangeByte_39247 14 = .ok (.aload_n 0, 1) := by decide +kernel
theorem dJ7_copyOfRangeByte_39247_15 : decode cJ7_copyOfRangeByte_39247 15 = .ok (.iload_n 1, 1) := by decide +kernel
theorem dJ7_copyOfRangeByte_39247_16 : decode cJ7_copyOfRangeByte_39247 16 = .ok (.aload 4, 2) := by decide +kernel
theorem dJ7_copyOfRangeByte_39247_18 : decode cJ7_copyOfRangeByte_39247 18 = .ok (.iconst 0, 1) := by decide +kernel
theorem dJ7_copyOfRangeByte_39247_19 : decode cJ7_copyOfRangeByte_39247 19 = .ok (.aload_n 0, 1) := by decide +kernel
theorem dJ7_copyOfRangeByte_39247_20 : decode cJ7_copyOfRangeByte_39247 20 = .ok (.arraylength, 1) := by decide +kernel
theorem dJ7_copyOfRangeByte_39247_21 : decode cJ7_copyOfRangeByte_39247 21 = .ok (.iload_n 1, 1) := by decide +kernel
theorem dJ7_copyOfRangeByte_39247_22 : decode cJ7_copyOfRangeByte_39247 22 = .ok (.isub, 1) := by decide +kernel
theorem dJ7_copyOfRangeByte_39247_23 : decode cJ7_copyOfRangeByte_39247 23 = .ok (.iload_n 3, 1) := by decide +kernel
theorem dJ7_copyOfRangeByte_39247_24 : decode cJ7_copyOfRangeByte_39247 24 = .ok (.invokestatic 304, 3) := by decide +kernel
theorem dJ7_copyOfRangeByte_39247_27 : decode cJ7_copyOfRangeByte_39247 27 = .ok (.invokestatic 150, 3) := by decide +kernel
theorem dJ7_copyOfRangeByte_39247_30 : decode cJ7_copyOfRangeByte_39247 30 = .ok (.aload 4, 2) := by decide +kernel
theorem dJ7_copyOfRangeByte_39247_32 : decode cJ7_copyOfRangeByte_39247 32 = .ok (.areturn, 1) := by decide +kernel
theorem dJ15_checkIndex_7cf53_0 : decode cJ15_checkIndex_7cf53 0 = .ok (.iload_n 0, 1) := by decide +kernel
theorem dJ15_checkIndex_7cf53_1 : decode cJ15_checkIndex_7cf53 1 = .ok (.iload_n 1, 1) := by decide +kernel
theorem dJ15_checkIndex_7cf53_2 : decode cJ15_checkIndex_7cf53 2 = .ok (.aconst_null, 1) := by decide +kernel
theorem dJ15_checkIndex_7cf53_3 : decode cJ15_checkIndex_7cf53 3 = .ok (.invokestatic 105, 3) := by decide +kernel
theorem dJ15_checkIndex_7cf53_6 : decode cJ15_checkIndex_7cf53 6 = .ok (.ireturn, 1) := by decide +kernel
theorem dJ8_newLength_cabcc_0 : decode cJ8_newLength_cabcc 0 = .ok (.iload_n 0, 1) := by decide +kernel
theorem dJ8_newLength_cabcc_1 : decode cJ8_newLength_cabcc 1 = .ok (.iload_n 1, 1) := by decide +kernel
theorem dJ8_newLength_cabcc_2 : decode cJ8_newLength_cabcc 2 = .ok (.iload_n 2, 1) := by decide +kernel
theorem dJ8_newLength_cabcc_3 : decode cJ8_newLength_cabcc 3 = .ok (.invokestatic 194, 3) := by decide +kernel
theorem dJ8_newLength_cabcc_6 : decode cJ8_newLength_cabcc 6 = .ok (.iadd, 1) := by decide +kernel
theorem dJ8_newLength_cabcc_7 : decode cJ8_newLength_cabcc 7 = .ok (.istore_n 3, 1) := by decide +kernel
theorem dJ8_newLength_cabcc_8 : decode cJ8_newLength_cabcc 8 = .ok (.iconst 0, 1) := by decide +kernel
theorem dJ8_newLength_cabcc_9 : decode cJ8_newLength_cabcc 9 = .ok (.iload_n 3, 1) := by decide +kernel
theorem dJ8_newLength_cabcc_10 : decode cJ8_newLength_cabcc 10 = .ok (.if_icmp .ge 11, 3) := by decide +kernel
theorem dJ8_newLength_cabcc_13 : decode cJ8_newLength_cabcc 13 = .ok (.iload_n 3, 1) := by decide +kernel
theorem dJ8_newLength_cabcc_14 : decode cJ8_newLength_cabcc 14 = .ok (.ldc 200, 2) := by decide +kernel
theorem dJ8_newLength_cabcc_16 : decode cJ8_newLength_cabcc 16 = .ok (.if_icmp .gt 5, 3) := by decide +kernel
theorem dJ8_newLength_cabcc_19 : decode cJ8_newLength_cabcc 19 = .ok (.iload_n 3, 1) := by decide +kernel
theorem dJ8_newLength_cabcc_20 : decode cJ8_newLength_cabcc 20 = .ok (.ireturn, 1) := by decide +kernel
theorem dJ8_newLength_cabcc_21 : decode cJ8_newLength_cabcc 21 = .ok (.iload_n 0, 1) := by decide +kernel
theorem dJ8_newLength_cabcc_22 : decode cJ8_newLength_cabcc 22 = .ok (.iload_n 1, 1) := by decide +kernel
theorem dJ8_newLength_cabcc_23 : decode cJ8_newLength_cabcc 23 = .ok (.invokestatic 201, 3) := by decide +kernel
theorem dJ8_newLength_cabcc_26 : decode cJ8_newLength_cabcc 26 = .ok (.ireturn, 1) := by decide +kernel
theorem dJ8_hugeLength_7cf53_0 : decode cJ8_hugeLength_7cf53 0 = .ok (.iload_n 0, 1) := by decide +kernel
theorem dJ8_hugeLength_7cf53_1 : decode cJ8_hugeLength_7cf53 1 = .ok (.iload_n 1, 1) := by decide +kernel
theorem dJ8_hugeLength_7cf53_2 : decode cJ8_hugeLength_7cf53 2 = .ok (.iadd, 1) := by decide +kernel
theorem dJ8_hugeLength_7cf53_3 : decode cJ8_hugeLength_7cf53 3 = .ok (.istore_n 2, 1) := by decide +kernel
theorem dJ8_hugeLength_7cf53_4 : decode cJ8_hugeLength_7cf53 4 = .ok (.iload_n 2, 1) := by decide +kernel
theorem dJ8_hugeLength_7cf53_5 : decode cJ8_hugeLength_7cf53 5 = .ok (.ifCond .ge 44, 3) := by decide +kernel
theorem dJ8_hugeLength_7cf53_8 : decode cJ8_hugeLength_7cf53 8 = .ok (.new 204, 3) := by decide +kernel
theorem dJ8_hugeLength_7cf53_11 : decode cJ8_hugeLength_7cf53 11 = .ok (.dup, 1) := by decide +kernel
theorem dJ8_hugeLength_7cf53_12 : decode cJ8_hugeLength_7cf53 12 = .ok (.new 89, 3) := by decide +kernel
theorem dJ8_hugeLength_7cf53_15 : decode cJ8_hugeLength_7cf53 15 = .ok (.dup, 1) := by decide +kernel
theorem dJ8_hugeLength_7cf53_16 : decode cJ8_hugeLength_7cf53 16 = .ok (.invokespecial 91, 3) := by decide +kernel
theorem dJ8_hugeLength_7cf53_19 : decode cJ8_hugeLength_7cf53 19 = .ok (.ldc 206, 2) := by decide +kernel
theorem dJ8_hugeLength_7cf53_21 : decode cJ8_hugeLength_7cf53 21 = .ok (.invokevirtual 94, 3) := by decide +kernel
theorem dJ8_hugeLength_7cf53_24 : decode cJ8_hugeLength_7cf53 24 = .ok (.iload_n 0, 1) := by decide +kernel
theorem dJ8_hugeLength_7cf53_25 : decode cJ8_hugeLength_7cf53 25 = .ok (.invokevirtual 98, 3) := by decide +kernel
theorem dJ8_hugeLength_7cf53_28 : decode cJ8_hugeLength_7cf53 28 = .ok (.ldc 208, 2) := by decide +kernel
theorem dJ8_hugeLength_7cf53_30 : decode cJ8_hugeLength_7cf53 30 = .ok (.invokevirtual 94, 3) := by decide +kernel
theorem dJ8_hugeLength_7cf53_33 : decode cJ8_hugeLength_7cf53 33 = .ok (.iload_n 1, 1) := by decide +kernel
theorem dJ8_hugeLength_7cf53_34 : decode cJ8_hugeLength_7cf53 34 = .ok (.invokevirtual 98, 3) := by decide +kernel
theorem dJ8_hugeLength_7cf53_37 : decode cJ8_hugeLength_7cf53 37 = .ok (.ldc 210, 2) := by decide +kernel
theorem dJ8_hugeLength_7cf53_39 : decode cJ8_hugeLength_7cf53 39 = .ok (.invokevirtual 94, 3) := by decide +kernel
theorem dJ8_hugeLength_7cf53_42 : decode cJ8_hugeLength_7cf53 42 = .ok (.invokevirtual 101, 3) := by decide +kernel
theorem dJ8_hugeLength_7cf53_45 : decode cJ8_hugeLength_7cf53 45 = .ok (.invokespecial 212, 3) := by decide +kernel
theorem dJ8_hugeLength_7cf53_48 : decode cJ8_hugeLength_7cf53 48 = .ok (.athrow, 1) := by decide +kernel
theorem dJ8_hugeLength_7cf53_49 : decode cJ8_hugeLength_7cf53 49 = .ok (.iload_n 2, 1) := by decide +kernel
theorem dJ8_hugeLength_7cf53_50 : decode cJ8_hugeLength_7cf53 50 = .ok (.ldc 200, 2) := by decide +kernel
theorem dJ8_hugeLength_7cf53_52 : decode cJ8_hugeLength_7cf53 52 = .ok (.if_icmp .gt 6, 3) := by decide +kernel
theorem dJ8_hugeLength_7cf53_55 : decode cJ8_hugeLength_7cf53 55 = .ok (.ldc 200, 2) := by decide +kernel
theorem dJ8_hugeLength_7cf53_57 : decode cJ8_hugeLength_7cf53 57 = .ok (.ireturn, 1) := by decide +kernel
theorem dJ8_hugeLength_7cf53_58 : decode cJ8_hugeLength_7cf53 58 = .ok (.iload_n 2, 1) := by decide +kernel
theorem dJ8_hugeLength_7cf53_59 : decode cJ8_hugeLength_7cf53 59 = .ok (.ireturn, 1) := by decide +kernel
theorem dJ3_checkIndex_8e157_0 : decode cJ3_checkIndex_8e157 0 = .ok (.iload_n 0, 1) := by decide +kernel
theorem dJ3_checkIndex_8e157_1 : decode cJ3_checkIndex_8e157 1 = .ok (.ifCond .lt 8, 3) := by decide +kernel
theorem dJ3_checkIndex_8e157_4 : decode cJ3_checkIndex_8e157 4 = .ok (.iload_n 0, 1) := by decide +kernel
theorem dJ3_checkIndex_8e157_5 : decode cJ3_checkIndex_8e157 5 = .ok (.iload_n 1, 1) := by decide +kernel
theorem dJ3_checkIndex_8e157_6 : decode cJ3_checkIndex_8e157 6 = .ok (.if_icmp .lt 10, 3) := by decide +kernel
theorem dJ3_checkIndex_8e157_9 : decode cJ3_checkIndex_8e157 9 = .ok (.aload_n 2, 1) := by decide +kernel
theorem dJ3_checkIndex_8e157_10 : decode cJ3_checkIndex_8e157 10 = .ok (.iload_n 0, 1) := by decide +kernel
theorem dJ3_checkIndex_8e157_11 : decode cJ3_checkIndex_8e157 11 = .ok (.iload_n 1, 1) := by decide +kernel
theorem dJ3_checkIndex_8e157_12 : decode cJ3_checkIndex_8e157 12 = .ok (.invokestatic 95, 3) := by decide +kernel
theorem dJ3_checkIndex_8e157_15 : decode cJ3_checkIndex_8e157 15 = .ok (.athrow, 1) := by decide +kernel
theorem dJ3_checkIndex_8e157_16 : decode cJ3_checkIndex_8e157 16 = .ok (.iload_n 0, 1) := by decide +kernel
theorem dJ3_checkIndex_8e157_17 : decode cJ3_checkIndex_8e157 17 = .ok (.ireturn, 1) := by decide +kernel
theorem dJ3_checkFromToIndex_8c36e_0 : decode cJ3_checkFromToIndex_8c36e 0 = .ok (.iload_n 0, 1) := by decide +kernel
theorem dJ3_checkFromToIndex_8c36e_1 : decode cJ3_checkFromToIndex_8c36e 1 = .ok (.ifCond .lt 13, 3) := by decide +kernel
theorem dJ3_checkFromToIndex_8c36e_4 : decode cJ3_checkFromToIndex_8c36e 4 = .ok (.iload_n 0, 1) := by decide +kernel
theorem dJ3_checkFromToIndex_8c36e_5 : decode cJ3_checkFromToIndex_8c36e 5 = .ok (.iload_n 1, 1) := by decide +kernel
theorem dJ3_checkFromToIndex_8c36e_6 : decode cJ3_checkFromToIndex_8c36e 6 = .ok (.if_icmp .gt 8, 3) := by decide +kernel
theorem dJ3_checkFromToIndex_8c36e_9 : decode cJ3_checkFromToIndex_8c36e 9 = .ok (.iload_n 1, 1) := by decide +kernel
theorem dJ3_checkFromToIndex_8c36e_10 : decode cJ3_checkFromToIndex_8c36e 10 = .ok (.iload_n 2, 1) := by decide +kernel
theorem dJ3_checkFromToIndex_8c36e_11 : decode cJ3_checkFromToIndex_8c36e 11 = .ok (.if_icmp .le 11, 3) := by decide +kernel
theorem dJ3_checkFromToIndex_8c36e_14 : decode cJ3_checkFromToIndex_8c36e 14 = .ok (.aload_n 3, 1) := by decide +kernel
theorem dJ3_checkFromToIndex_8c36e_15 : decode cJ3_checkFromToIndex_8c36e 15 = .ok (.iload_n 0, 1) := by decide +kernel
theorem dJ3_checkFromToIndex_8c36e_16 : decode cJ3_checkFromToIndex_8c36e 16 = .ok (.iload_n 1, 1) := by decide +kernel
theorem dJ3_checkFromToIndex_8c36e_17 : decode cJ3_checkFromToIndex_8c36e 17 = .ok (.iload_n 2, 1) := by decide +kernel
theorem dJ3_checkFromToIndex_8c36e_18 : decode cJ3_checkFromToIndex_8c36e 18 = .ok (.invokestatic 99, 3) := by decide +kernel
theorem dJ3_checkFromToIndex_8c36e_21 : decode cJ3_checkFromToIndex_8c36e 21 = .ok (.athrow, 1) := by decide +kernel
theorem dJ3_checkFromToIndex_8c36e_22 : decode cJ3_checkFromToIndex_8c36e 22 = .ok (.iload_n 0, 1) := by decide +kernel
theorem dJ3_checkFromToIndex_8c36e_23 : decode cJ3_checkFromToIndex_8c36e 23 = .ok (.ireturn, 1) := by decide +kernel
theorem dJ3_checkFromIndexSize_8c36e_0 : decode cJ3_checkFromIndexSize_8c36e 0 = .ok (.iload_n 2, 1) := by decide +kernel
theorem dJ3_checkFromIndexSize_8c36e_1 : decode cJ3_checkFromIndexSize_8c36e 1 = .ok (.iload_n 0, 1) := by decide +kernel
theorem dJ3_checkFromIndexSize_8c36e_2 : decode cJ3_checkFromIndexSize_8c36e 2 = .ok (.ior, 1) := by decide +kernel
theorem dJ3_checkFromIndexSize_8c36e_3 : decode cJ3_checkFromIndexSize_8c36e 3 = .ok (.iload_n 1, 1) := by decide +kernel
theorem dJ3_checkFromIndexSize_8c36e_4 : decode cJ3_checkFromIndexSize_8c36e 4 = .ok (.ior, 1) := by decide +kernel
theorem dJ3_checkFromIndexSize_8c36e_5 : decode cJ3_checkFromIndexSize_8c36e 5 = .ok (.ifCond .lt 10, 3) := by decide +kernel
theorem dJ3_checkFromIndexSize_8c36e_8 : decode cJ3_checkFromIndexSize_8c36e 8 = .ok (.iload_n 1, 1) := by decide +kernel
theorem dJ3_checkFromIndexSize_8c36e_9 : decode cJ3_checkFromIndexSize_8c36e 9 = .ok (.iload_n 2, 1) := by decide +kernel
theorem dJ3_checkFromIndexSize_8c36e_10 : decode cJ3_checkFromIndexSize_8c36e 10 = .ok (.iload_n 0, 1) := by decide +kernel
theorem dJ3_checkFromIndexSize_8c36e_11 : decode cJ3_checkFromIndexSize_8c36e 11 = .ok (.isub, 1) := by decide +kernel
theorem dJ3_checkFromIndexSize_8c36e_12 : decode cJ3_checkFromIndexSize_8c36e 12 = .ok (.if_icmp .le 11, 3) := by decide +kernel
theorem dJ3_checkFromIndexSize_8c36e_15 : decode cJ3_checkFromIndexSize_8c36e 15 = .ok (.aload_n 3, 1) := by decide +kernel
theorem dJ3_checkFromIndexSize_8c36e_16 : decode cJ3_checkFromIndexSize_8c36e 16 = .ok (.iload_n 0, 1) := by decide +kernel
theorem dJ3_checkFromIndexSize_8c36e_17 : decode cJ3_checkFromIndexSize_8c36e 17 = .ok (.iload_n 1, 1) := by decide +kernel
theorem dJ3_checkFromIndexSize_8c36e_18 : decode cJ3_checkFromIndexSize_8c36e 18 = .ok (.iload_n 2, 1) := by decide +kernel
theorem dJ3_checkFromIndexSize_8c36e_19 : decode cJ3_checkFromIndexSize_8c36e 19 = .ok (.invokestatic 103, 3) := by decide +kernel
theorem dJ3_checkFromIndexSize_8c36e_22 : decode cJ3_checkFromIndexSize_8c36e 22 = .ok (.athrow, 1) := by decide +kernel
theorem dJ3_checkFromIndexSize_8c36e_23 : decode cJ3_checkFromIndexSize_8c36e 23 = .ok (.iload_n 0, 1) := by decide +kernel
theorem dJ3_checkFromIndexSize_8c36e_24 : decode cJ3_checkFromIndexSize_8c36e 24 = .ok (.ireturn, 1) := by decide +kernel
end
section
theorem dX0_init_0 : decode cX0_init 0 = .ok (.aload_n 0, 1) := by decide +kernel
theorem dX0_init_1 : decode cX0_init 1 = .ok (.invokespecial 1, 3) := by decide +kernel
theorem dX0_init_4 : decode cX0_init 4 = .ok (.aload_n 0, 1) := by decide +kernel
theorem dX0_init_5 : decode cX0_init 5 = .ok (.iload_n 1, 1) := by decide +kernel
theorem dX0_init_6 : decode cX0_init 6 = .ok (.putfield 7, 3) := by decide +kernel
theorem dX0_init_9 : decode cX0_init 9 = .ok (.aload_n 0, 1) := by decide +kernel
theorem dX0_init_10 : decode cX0_init 10 = .ok (.aload_n 2, 1) := by decide +kernel
theorem dX0_init_11 : decode cX0_init 11 = .ok (.putfield 13, 3) := by decide +kernel
theorem dX0_init_14 : decode cX0_init 14 = .ok (.aload_n 0, 1) := by decide +kernel
theorem dX0_init_15 : decode cX0_init 15 = .ok (.iload_n 3, 1) := by decide +kernel
theorem dX0_init_16 : decode cX0_init 16 = .ok (.putfield 17, 3) := by decide +kernel
theorem dX0_init_19 : decode cX0_init 19 = .ok (.return_, 1) := by decide +kernel
theorem dX1_init_0 : decode cX1_init 0 = .ok (.aload_n 0, 1) := by decide +kernel
theorem dX1_init_1 : decode cX1_init 1 = .ok (.invokespecial 3, 3) := by decide +kernel
theorem dX1_init_4 : decode cX1_init 4 = .ok (.aload_n 0, 1) := by decide +kernel
theorem dX1_init_5 : decode cX1_init 5 = .ok (.iconst 4, 1) := by decide +kernel
theorem dX1_init_6 : decode cX1_init 6 = .ok (.putfield 9, 3) := by decide +kernel
theorem dX1_init_9 : decode cX1_init 9 = .ok (.aload_n 0, 1) := by decide +kernel
theorem dX1_init_10 : decode cX1_init 10 = .ok (.iconst 0, 1) := by decide +kernel
theorem dX1_init_11 : decode cX1_init 11 = .ok (.putfield 15, 3) := by decide +kernel
theorem dX1_init_14 : decode cX1_init 14 = .ok (.aload_n 0, 1) := by decide +kernel
theorem dX1_init_15 : decode cX1_init 15 = .ok (.aconst_null, 1) := by decide +kernel
theorem dX1_init_16 : decode cX1_init 16 = .ok (.putfield 18, 3) := by decide +kernel
theorem dX1_init_19 : decode cX1_init 19 = .ok (.aload_n 0, 1) := by decide +kernel
theorem dX1_init_20 : decode cX1_init 20 = .ok (.aconst_null, 1) := by decide +kernel
theorem dX1_init_21 : decode cX1_init 21 = .ok (.putfield 22, 3) := by decide +kernel
theorem dX1_init_24 : decode cX1_init 24 = .ok (.aload_n 0, 1) := by decide +kernel
theorem dX1_init_25 : decode cX1_init 25 = .ok (.iload_n 1, 1) := by decide +kernel
theorem dX1_init_26 : decode cX1_init 26 = .ok (.putfield 25, 3) := by decide +kernel
theorem dX1_init_29 : decode cX1_init 29 = .ok (.aload_n 0, 1) := by decide +kernel
theorem dX1_init_30 : decode cX1_init 30 = .ok (.iload_n 2, 1) := by decide +kernel
theorem dX1_init_31 : decode cX1_init 31 = .ok (.putfield 28, 3) := by decide +kernel
theorem dX1_init_34 : decode cX1_init 34 = .ok (.aload_n 0, 1) := by decide +kernel
theorem dX1_init_35 : decode cX1_init 35 = .ok (.aload_n 3, 1) := by decide +kernel
theorem dX1_init_36 : decode cX1_init 36 = .ok (.putfield 31, 3) := by decide +kernel
theorem dX1_init_39 : decode cX1_init 39 = .ok (.aload_n 0, 1) := by decide +kernel
theorem dX1_init_40 : decode cX1_init 40 = .ok (.aload 4, 2) := by decide +kernel
theorem dX1_init_42 : decode cX1_init 42 = .ok (.putfield 35, 3) := by decide +kernel
theorem dX1_init_45 : decode cX1_init 45 = .ok (.return_, 1) := by decide +kernel
theorem dX1_init__0 : decode cX1_init_ 0 = .ok (.aload_n 0, 1) := by decide +kernel
theorem dX1_init__1 : decode cX1_init_ 1 = .ok (.invokespecial 3, 3) := by decide +kernel
theorem dX1_init__4 : decode cX1_init_ 4 = .ok (.aload_n 0, 1) := by decide +kernel
theorem dX1_init__5 : decode cX1_init_ 5 = .ok (.iload_n 1, 1) := by decide +kernel
theorem dX1_init__6 : decode cX1_init_ 6 = .ok (.putfield 9, 3) := by decide +kernel
theorem dX1_init__9 : decode cX1_init_ 9 = .ok (.aload_n 0, 1) := by decide +kernel
theorem dX1_init__10 : decode cX1_init_ 10 = .ok (.iload_n 2, 1) := by decide +kernel
theorem dX1_init__11 : decode cX1_init_ 11 = .ok (.putfield 15, 3) := by decide +kernel
theorem dX1_init__14 : decode cX1_init_ 14 = .ok (.aload_n 0, 1) := by decide +kernel
theorem dX1_init__15 : decode cX1_init_ 15 = .ok (.aload_n 3, 1) := by decide +kernel
theorem dX1_init__16 : decode cX1_init_ 16 = .ok (.putfield 18, 3) := by decide +kernel
theorem dX1_init__19 : decode cX1_init_ 19 = .ok (.aload_n 0, 1) := by decide +kernel
theorem dX1_init__20 : decode cX1_init_ 20 = .ok (.aload 4, 2) := by decide +kernel
theorem dX1_init__22 : decode cX1_init_ 22 = .ok (.putfield 22, 3) := by decide +kernel
theorem dX1_init__25 : decode cX1_init_ 25 = .ok (.aload_n 0, 1) := by decide +kernel
theorem dX1_init__26 : decode cX1_init_ 26 = .ok (.iconst 1, 1) := by decide +kernel
theorem dX1_init__27 : decode cX1_init_ 27 = .ok (.aload_n 3, 1) := by decide +kernel
theorem dX1_init__28 : decode cX1_init_ 28 = .ok (.invokestatic 39, 3) := by decide +kernel
theorem dX1_init__31 : decode cX1_init_ 31 = .ok (.aload 4, 2) := by decide +kernel
theorem dX1_init__33 : decode cX1_init_ 33 = .ok (.invokestatic 39, 3) := by decide +kernel
theorem dX1_init__36 : decode cX1_init_ 36 = .ok (.invokestatic 43, 3) := by decide +kernel
theorem dX1_init__39 : decode cX1_init_ 39 = .ok (.iadd, 1) := by decide +kernel
theorem dX1_init__40 : decode cX1_init_ 40 = .ok (.putfield 25, 3) := by decide +kernel
theorem dX1_init__43 : decode cX1_init_ 43 = .ok (.aload_n 0, 1) := by decide +kernel
theorem dX1_init__44 : decode cX1_init_ 44 = .ok (.aload_n 3, 1) := by decide +kernel
theorem dX1_init__45 : decode cX1_init_ 45 = .ok (.invokestatic 49, 3) := by decide +kernel
theorem dX1_init__48 : decode cX1_init_ 48 = .ok (.aload 4, 2) := by decide +kernel
theorem dX1_init__50 : decode cX1_init_ 50 = .ok (.invokestatic 49, 3) := by decide +kernel
theorem dX1_init__53 : decode cX1_init_ 53 = .ok (.invokestatic 43, 3) := by decide +kernel
theorem dX1_init__56 : decode cX1_init_ 56 = .ok (.putfield 28, 3) := by decide +kernel
theorem dX1_init__59 : decode cX1_init_ 59 = .ok (.aload_n 0, 1) := by decide +kernel
theorem dX1_init__60 : decode cX1_init_ 60 = .ok (.aload 5, 2) := by decide +kernel
theorem dX1_init__62 : decode cX1_init_ 62 = .ok (.putfield 31, 3) := by decide +kernel
theorem dX1_init__65 : decode cX1_init_ 65 = .ok (.aload_n 0, 1) := by decide +kernel
theorem dX1_init__66 : decode cX1_init_ 66 = .ok (.bipush 20, 2) := by decide +kernel
theorem dX1_init__68 : decode cX1_init_ 68 = .ok (.newarray .long, 2) := by decide +kernel
theorem dX1_init__70 : decode cX1_init_ 70 = .ok (.putfield 35, 3) := by decide +kernel
theorem dX1_init__73 : decode cX1_init_ 73 = .ok (.return_, 1) := by decide +kernel
theorem dX1_levelOf_0 : decode cX1_levelOf 0 = .ok (.aload_n 0, 1) := by decide +kernel
theorem dX1_levelOf_1 : decode cX1_levelOf 1 = .ok (.ifnonnull 7, 3) := by decide +kernel
theorem dX1_levelOf_4 : decode cX1_levelOf 4 = .ok (.iconst 0, 1) := by decide +kernel
theorem dX1_levelOf_5 : decode cX1_levelOf 5 = .ok (.goto 7, 3) := by decide +kernel
theorem dX1_levelOf_8 : decode cX1_levelOf 8 = .ok (.aload_n 0, 1) := by decide +kernel
theorem dX1_levelOf_9 : decode cX1_levelOf 9 = .ok (.getfield 25, 3) := by decide +kernel
theorem dX1_levelOf_12 : decode cX1_levelOf 12 = .ok (.ireturn, 1) := by decide +kernel
theorem dX1_greatestTermOf_0 : decode cX1_greatestTermOf 0 = .ok (.aload_n 0, 1) := by decide +kernel
theorem dX1_greatestTermOf_1 : decode cX1_greatestTermOf 1 = .ok (.ifnonnull 7, 3) := by decide +kernel
theorem dX1_greatestTermOf_4 : decode cX1_greatestTermOf 4 = .ok (.iconst (-1), 1) := by decide +kernel
theorem dX1_greatestTermOf_5 : decode cX1_greatestTermOf 5 = .ok (.goto 7, 3) := by decide +kernel
theorem dX1_greatestTermOf_8 : decode cX1_greatestTermOf 8 = .ok (.aload_n 0, 1) := by decide +kernel
theorem dX1_greatestTermOf_9 : decode cX1_greatestTermOf 9 = .ok (.getfield 28, 3) := by decide +kernel
theorem dX1_greatestTermOf_12 : decode cX1_greatestTermOf 12 = .ok (.ireturn, 1) := by decide +kernel
theorem dX2_init_0 : decode cX2_init 0 = .ok (.aload_n 0, 1) := by decide +kernel
theorem dX2_init_1 : decode cX2_init 1 = .ok (.invokespecial 3, 3) := by decide +kernel
theorem dX2_init_4 : decode cX2_init 4 = .ok (.aload_n 0, 1) := by decide +kernel
theorem dX2_init_5 : decode cX2_init 5 = .ok (.aload_n 1, 1) := by decide +kernel
theorem dX2_init_6 : decode cX2_init 6 = .ok (.putfield 9, 3) := by decide +kernel
theorem dX2_init_9 : decode cX2_init 9 = .ok (.aload_n 0, 1) := by decide +kernel
theorem dX2_init_10 : decode cX2_init 10 = .ok (.aload_n 2, 1) := by decide +kernel
theorem dX2_init_11 : decode cX2_init 11 = .ok (.putfield 15, 3) := by decide +kernel
theorem dX2_init_14 : decode cX2_init 14 = .ok (.aload_n 0, 1) := by decide +kernel
theorem dX2_init_15 : decode cX2_init 15 = .ok (.bipush 20, 2) := by decide +kernel
theorem dX2_init_17 : decode cX2_init 17 = .ok (.newarray .int, 2) := by decide +kernel
theorem dX2_init_19 : decode cX2_init 19 = .ok (.putfield 18, 3) := by decide +kernel
theorem dX2_init_22 : decode cX2_init 22 = .ok (.aload_n 0, 1) := by decide +kernel
theorem dX2_init_23 : decode cX2_init 23 = .ok (.getfield 18, 3) := by decide +kernel
theorem dX2_init_26 : decode cX2_init 26 = .ok (.iconst (-1), 1) := by decide +kernel
theorem dX2_init_27 : decode cX2_init 27 = .ok (.invokestatic 22, 3) := by decide +kernel
theorem dX2_init_30 : decode cX2_init 30 = .ok (.aload_n 0, 1) := by decide +kernel
theorem dX2_init_31 : decode cX2_init 31 = .ok (.iconst (-1), 1) := by decide +kernel
theorem dX2_init_32 : decode cX2_init 32 = .ok (.putfield 28, 3) := by decide +kernel
theorem dX2_init_35 : decode cX2_init 35 = .ok (.aload_n 0, 1) := by decide +kernel
theorem dX2_init_36 : decode cX2_init 36 = .ok (.bipush 20, 2) := by decide +kernel
theorem dX2_init_38 : decode cX2_init 38 = .ok (.newarray .int, 2) := by decide +kernel
theorem dX2_init_40 : decode cX2_init 40 = .ok (.putfield 32, 3) := by decide +kernel
theorem dX2_init_43 : decode cX2_init 43 = .ok (.aload_n 0, 1) := by decide +kernel
theorem dX2_init_44 : decode cX2_init 44 = .ok (.bipush 20, 2) := by decide +kernel
theorem dX2_init_46 : decode cX2_init 46 = .ok (.newarray .boolean, 2) := by decide +kernel
theorem dX2_init_48 : decode cX2_init 48 = .ok (.putfield 35, 3) := by decide +kernel
theorem dX2_init_51 : decode cX2_init 51 = .ok (.return_, 1) := by decide +kernel
theorem dX3_init_0 : decode cX3_init 0 = .ok (.aload_n 0, 1) := by decide +kernel
theorem dX3_init_1 : decode cX3_init 1 = .ok (.invokespecial 3, 3) := by decide +kernel
theorem dX3_init_4 : decode cX3_init 4 = .ok (.aload_n 0, 1) := by decide +kernel
theorem dX3_init_5 : decode cX3_init 5 = .ok (.aload_n 1, 1) := by decide +kernel
theorem dX3_init_6 : decode cX3_init 6 = .ok (.getfield 9, 3) := by decide +kernel
theorem dX3_init_9 : decode cX3_init 9 = .ok (.putfield 15, 3) := by decide +kernel
theorem dX3_init_12 : decode cX3_init 12 = .ok (.aload_n 0, 1) := by decide +kernel
theorem dX3_init_13 : decode cX3_init 13 = .ok (.bipush 20, 2) := by decide +kernel
theorem dX3_init_15 : decode cX3_init 15 = .ok (.anewarray 10, 3) := by decide +kernel
theorem dX3_init_18 : decode cX3_init 18 = .ok (.putfield 18, 3) := by decide +kernel
theorem dX3_init_21 : decode cX3_init 21 = .ok (.aload_n 0, 1) := by decide +kernel
theorem dX3_init_22 : decode cX3_init 22 = .ok (.getfield 18, 3) := by decide +kernel
theorem dX3_init_25 : decode cX3_init 25 = .ok (.iconst 0, 1) := by decide +kernel
theorem dX3_init_26 : decode cX3_init 26 = .ok (.aload_n 1, 1) := by decide +kernel
theorem dX3_init_27 : decode cX3_init 27 = .ok (.aastore, 1) := by decide +kernel
theorem dX3_init_28 : decode cX3_init 28 = .ok (.aload_n 0, 1) := by decide +kernel
theorem dX3_init_29 : decode cX3_init 29 = .ok (.iconst 1, 1) := by decide +kernel
theorem dX3_init_30 : decode cX3_init 30 = .ok (.putfield 22, 3) := by decide +kernel
theorem dX3_init_33 : decode cX3_init 33 = .ok (.aload_n 0, 1) := by decide +kernel
theorem dX3_init_34 : decode cX3_init 34 = .ok (.bipush 20, 2) := by decide +kernel
theorem dX3_init_36 : decode cX3_init 36 = .ok (.newarray .long, 2) := by decide +kernel
theorem dX3_init_38 : decode cX3_init 38 = .ok (.putfield 25, 3) := by decide +kernel
theorem dX3_init_41 : decode cX3_init 41 = .ok (.return_, 1) := by decide +kernel
theorem dX4_init_0 : decode cX4_init 0 = .ok (.aload_n 0, 1) := by decide +kernel
theorem dX4_init_1 : decode cX4_init 1 = .ok (.invokespecial 1, 3) := by decide +kernel
theorem dX4_init_4 : decode cX4_init 4 = .ok (.aload_n 0, 1) := by decide +kernel
theorem dX4_init_5 : decode cX4_init 5 = .ok (.bipush 6, 2) := by decide +kernel
theorem dX4_init_7 : decode cX4_init 7 = .ok (.bipush 20, 2) := by decide +kernel
theorem dX4_init_9 : decode cX4_init 9 = .ok (.multianewarray 9 2, 4) := by decide +kernel
theorem dX4_init_13 : decode cX4_init 13 = .ok (.putfield 11, 3) := by decide +kernel
theorem dX4_init_16 : decode cX4_init 16 = .ok (.aload_n 0, 1) := by decide +kernel
theorem dX4_init_17 : decode cX4_init 17 = .ok (.new 14, 3) := by decide +kernel
theorem dX4_init_20 : decode cX4_init 20 = .ok (.dup, 1) := by decide +kernel
theorem dX4_init_21 : decode cX4_init 21 = .ok (.invokespecial 16, 3) := by decide +kernel
theorem dX4_init_24 : decode cX4_init 24 = .ok (.putfield 17, 3) := by decide +kernel
theorem dX4_init_27 : decode cX4_init 27 = .ok (.aload_n 0, 1) := by decide +kernel
theorem dX4_init_28 : decode cX4_init 28 = .ok (.new 14, 3) := by decide +kernel
theorem dX4_init_31 : decode cX4_init 31 = .ok (.dup, 1) := by decide +kernel
theorem dX4_init_32 : decode cX4_init 32 = .ok (.invokespecial 16, 3) := by decide +kernel
theorem dX4_init_35 : decode cX4_init 35 = .ok (.putfield 21, 3) := by decide +kernel
theorem dX4_init_38 : decode cX4_init 38 = .ok (.aload_n 0, 1) := by decide +kernel
theorem dX4_init_39 : decode cX4_init 39 = .ok (.new 14, 3) := by decide +kernel
theorem dX4_init_42 : decode cX4_init 42 = .ok (.dup, 1) := by decide +kernel
theorem dX4_init_43 : decode cX4_init 43 = .ok (.invokespecial 16, 3) := by decide +kernel
theorem dX4_init_46 : decode cX4_init 46 = .ok (.putfield 24, 3) := by decide +kernel
theorem dX4_init_49 : decode cX4_init 49 = .ok (.aload_n 0, 1) := by decide +kernel
theorem dX4_init_50 : decode cX4_init 50 = .ok (.new 14, 3) := by decide +kernel
theorem dX4_init_53 : decode cX4_init 53 = .ok (.dup, 1) := by decide +kernel
theorem dX4_init_54 : decode cX4_init 54 = .ok (.invokespecial 16, 3) := by decide +kernel
theorem dX4_init_57 : decode cX4_init 57 = .ok (.putfield 27, 3) := by decide +kernel
theorem dX4_init_60 : decode cX4_init 60 = .ok (.return_, 1) := by decide +kernel
theorem dX4_amount_0 : decode cX4_amount 0 = .ok (.iload_n 1, 1) := by decide +kernel
theorem dX4_amount_1 : decode cX4_amount 1 = .ok (.invokestatic 30, 3) := by decide +kernel
theorem dX4_amount_4 : decode cX4_amount 4 = .ok (.ifCond .eq 10, 3) := by decide +kernel
theorem dX4_amount_7 : decode cX4_amount 7 = .ok (.iload_n 2, 1) := by decide +kernel
theorem dX4_amount_8 : decode cX4_amount 8 = .ok (.invokestatic 34, 3) := by decide +kernel
theorem dX4_amount_11 : decode cX4_amount 11 = .ok (.ifCond .ne 13, 3) := by decide +kernel
theorem dX4_amount_14 : decode cX4_amount 14 = .ok (.new 37, 3) := by decide +kernel
theorem dX4_amount_17 : decode cX4_amount 17 = .ok (.dup, 1) := by decide +kernel
theorem dX4_amount_18 : decode cX4_amount 18 = .ok (.ldc 39, 2) := by decide +kernel
theorem dX4_amount_20 : decode cX4_amount 20 = .ok (.invokespecial 41, 3) := by decide +kernel
theorem dX4_amount_23 : decode cX4_amount 23 = .ok (.athrow, 1) := by decide +kernel
theorem dX4_amount_24 : decode cX4_amount 24 = .ok (.iload_n 3, 1) := by decide +kernel
theorem dX4_amount_25 : decode cX4_amount 25 = .ok (.ldc 44, 2) := by decide +kernel
theorem dX4_amount_27 : decode cX4_amount 27 = .ok (.ldc 45, 2) := by decide +kernel
theorem dX4_amount_29 : decode cX4_amount 29 = .ok (.invokestatic 46, 3) := by decide +kernel
theorem dX4_amount_32 : decode cX4_amount 32 = .ok (.ifCond .ne 13, 3) := by decide +kernel
theorem dX4_amount_35 : decode cX4_amount 35 = .ok (.new 50, 3) := by decide +kernel
theorem dX4_amount_38 : decode cX4_amount 38 = .ok (.dup, 1) := by decide +kernel
theorem dX4_amount_39 : decode cX4_amount 39 = .ok (.ldc 52, 2) := by decide +kernel
theorem dX4_amount_41 : decode cX4_amount 41 = .ok (.invokespecial 54, 3) := by decide +kernel
theorem dX4_amount_44 : decode cX4_amount 44 = .ok (.athrow, 1) := by decide +kernel
theorem dX4_amount_45 : decode cX4_amount 45 = .ok (.aload_n 0, 1) := by decide +kernel
theorem dX4_amount_46 : decode cX4_amount 46 = .ok (.getfield 11, 3) := by decide +kernel
theorem dX4_amount_49 : decode cX4_amount 49 = .ok (.iload_n 1, 1) := by decide +kernel
theorem dX4_amount_50 : decode cX4_amount 50 = .ok (.aaload, 1) := by decide +kernel
theorem dX4_amount_51 : decode cX4_amount 51 = .ok (.iload_n 2, 1) := by decide +kernel
theorem dX4_amount_52 : decode cX4_amount 52 = .ok (.laload, 1) := by decide +kernel
theorem dX4_amount_53 : decode cX4_amount 53 = .ok (.lstore 4, 2) := by decide +kernel
theorem dX4_amount_55 : decode cX4_amount 55 = .ok (.aload_n 0, 1) := by decide +kernel
theorem dX4_amount_56 : decode cX4_amount 56 = .ok (.getfield 11, 3) := by decide +kernel
theorem dX4_amount_59 : decode cX4_amount 59 = .ok (.iload_n 1, 1) := by decide +kernel
theorem dX4_amount_60 : decode cX4_amount 60 = .ok (.aaload, 1) := by decide +kernel
theorem dX4_amount_61 : decode cX4_amount 61 = .ok (.iload_n 2, 1) := by decide +kernel
theorem dX4_amount_62 : decode cX4_amount 62 = .ok (.iload_n 3, 1) := by decide +kernel
theorem dX4_amount_63 : decode cX4_amount 63 = .ok (.i2l, 1) := by decide +kernel
theorem dX4_amount_64 : decode cX4_amount 64 = .ok (.lastore, 1) := by decide +kernel
theorem dX4_amount_65 : decode cX4_amount 65 = .ok (.aload_n 0, 1) := by decide +kernel
theorem dX4_amount_66 : decode cX4_amount 66 = .ok (.invokevirtual 55, 3) := by decide +kernel
theorem dX4_amount_69 : decode cX4_amount 69 = .ok (.lload 4, 2) := by decide +kernel
theorem dX4_amount_71 : decode cX4_amount 71 = .ok (.l2i, 1) := by decide +kernel
theorem dX4_amount_72 : decode cX4_amount 72 = .ok (.ireturn, 1) := by decide +kernel
theorem dX4_account_0 : decode cX4_account 0 = .ok (.iload_n 1, 1) := by decide +kernel
theorem dX4_account_1 : decode cX4_account 1 = .ok (.invokestatic 30, 3) := by decide +kernel
theorem dX4_account_4 : decode cX4_account 4 = .ok (.ifCond .ne 13, 3) := by decide +kernel
theorem dX4_account_7 : decode cX4_account 7 = .ok (.new 37, 3) := by decide +kernel
theorem dX4_account_10 : decode cX4_account 10 = .ok (.dup, 1) := by decide +kernel
theorem dX4_account_11 : decode cX4_account 11 = .ok (.ldc 58, 2) := by decide +kernel
theorem dX4_account_13 : decode cX4_account 13 = .ok (.invokespecial 41, 3) := by decide +kernel
theorem dX4_account_16 : decode cX4_account 16 = .ok (.athrow, 1) := by decide +kernel
theorem dX4_account_17 : decode cX4_account 17 = .ok (.aload_n 0, 1) := by decide +kernel
theorem dX4_account_18 : decode cX4_account 18 = .ok (.getfield 17, 3) := by decide +kernel
theorem dX4_account_21 : decode cX4_account 21 = .ok (.invokevirtual 60, 3) := by decide +kernel
theorem dX4_account_24 : decode cX4_account 24 = .ok (.bipush 8, 2) := by decide +kernel
theorem dX4_account_26 : decode cX4_account 26 = .ok (.if_icmp .lt 13, 3) := by decide +kernel
theorem dX4_account_29 : decode cX4_account 29 = .ok (.new 64, 3) := by decide +kernel
theorem dX4_account_32 : decode cX4_account 32 = .ok (.dup, 1) := by decide +kernel
theorem dX4_account_33 : decode cX4_account 33 = .ok (.ldc 66, 2) := by decide +kernel
theorem dX4_account_35 : decode cX4_account 35 = .ok (.invokespecial 68, 3) := by decide +kernel
theorem dX4_account_38 : decode cX4_account 38 = .ok (.athrow, 1) := by decide +kernel
theorem dX4_account_39 : decode cX4_account 39 = .ok (.aload_n 0, 1) := by decide +kernel
theorem dX4_account_40 : decode cX4_account 40 = .ok (.new 69, 3) := by decide +kernel
theorem dX4_account_43 : decode cX4_account 43 = .ok (.dup, 1) := by decide +kernel
theorem dX4_account_44 : decode cX4_account 44 = .ok (.iconst 1, 1) := by decide +kernel
theorem dX4_account_45 : decode cX4_account 45 = .ok (.iconst (-1), 1) := by decide +kernel
theorem dX4_account_46 : decode cX4_account 46 = .ok (.ldc 71, 2) := by decide +kernel
theorem dX4_account_48 : decode cX4_account 48 = .ok (.iload_n 1, 1) := by decide +kernel
theorem dX4_account_49 : decode cX4_account 49 = .ok (.invokestatic 73, 3) := by decide +kernel
theorem dX4_account_52 : decode cX4_account 52 = .ok (.aload_n 0, 1) := by decide +kernel
theorem dX4_account_53 : decode cX4_account 53 = .ok (.getfield 11, 3) := by decide +kernel
theorem dX4_account_56 : decode cX4_account 56 = .ok (.iload_n 1, 1) := by decide +kernel
theorem dX4_account_57 : decode cX4_account 57 = .ok (.aaload, 1) := by decide +kernel
theorem dX4_account_58 : decode cX4_account 58 = .ok (.invokespecial 77, 3) := by decide +kernel
theorem dX4_account_61 : decode cX4_account 61 = .ok (.invokevirtual 80, 3) := by decide +kernel
theorem dX4_account_64 : decode cX4_account 64 = .ok (.ireturn, 1) := by decide +kernel
theorem dX4_number_0 : decode cX4_number 0 = .ok (.iload_n 1, 1) := by decide +kernel
theorem dX4_number_1 : decode cX4_number 1 = .ok (.iconst 0, 1) := by decide +kernel
theorem dX4_number_2 : decode cX4_number 2 = .ok (.ldc 45, 2) := by decide +kernel
theorem dX4_number_4 : decode cX4_number 4 = .ok (.invokestatic 46, 3) := by decide +kernel
theorem dX4_number_7 : decode cX4_number 7 = .ok (.ifCond .ne 13, 3) := by decide +kernel
theorem dX4_number_10 : decode cX4_number 10 = .ok (.new 50, 3) := by decide +kernel
theorem dX4_number_13 : decode cX4_number 13 = .ok (.dup, 1) := by decide +kernel
theorem dX4_number_14 : decode cX4_number 14 = .ok (.ldc 84, 2) := by decide +kernel
theorem dX4_number_16 : decode cX4_number 16 = .ok (.invokespecial 54, 3) := by decide +kernel
theorem dX4_number_19 : decode cX4_number 19 = .ok (.athrow, 1) := by decide +kernel
theorem dX4_number_20 : decode cX4_number 20 = .ok (.aload_n 0, 1) := by decide +kernel
theorem dX4_number_21 : decode cX4_number 21 = .ok (.getfield 17, 3) := by decide +kernel
theorem dX4_number_24 : decode cX4_number 24 = .ok (.invokevirtual 60, 3) := by decide +kernel
theorem dX4_number_27 : decode cX4_number 27 = .ok (.bipush 8, 2) := by decide +kernel
theorem dX4_number_29 : decode cX4_number 29 = .ok (.if_icmp .lt 13, 3) := by decide +kernel
theorem dX4_number_32 : decode cX4_number 32 = .ok (.new 64, 3) := by decide +kernel
theorem dX4_number_35 : decode cX4_number 35 = .ok (.dup, 1) := by decide +kernel
theorem dX4_number_36 : decode cX4_number 36 = .ok (.ldc 66, 2) := by decide +kernel
theorem dX4_number_38 : decode cX4_number 38 = .ok (.invokespecial 68, 3) := by decide +kernel
theorem dX4_number_41 : decode cX4_number 41 = .ok (.athrow, 1) := by decide +kernel
theorem dX4_number_42 : decode cX4_number 42 = .ok (.bipush 20, 2) := by decide +kernel
theorem dX4_number_44 : decode cX4_number 44 = .ok (.newarray .long, 2) := by decide +kernel
theorem dX4_number_46 : decode cX4_number 46 = .ok (.astore_n 2, 1) := by decide +kernel
theorem dX4_number_47 : decode cX4_number 47 = .ok (.aload_n 2, 1) := by decide +kernel
theorem dX4_number_48 : decode cX4_number 48 = .ok (.iload_n 1, 1) := by decide +kernel
theorem dX4_number_49 : decode cX4_number 49 = .ok (.i2l, 1) := by decide +kernel
theorem dX4_number_50 : decode cX4_number 50 = .ok (.invokestatic 86, 3) := by decide +kernel
theorem dX4_number_53 : decode cX4_number 53 = .ok (.aload_n 0, 1) := by decide +kernel
theorem dX4_number_54 : decode cX4_number 54 = .ok (.new 69, 3) := by decide +kernel
theorem dX4_number_57 : decode cX4_number 57 = .ok (.dup, 1) := by decide +kernel
theorem dX4_number_58 : decode cX4_number 58 = .ok (.iconst 1, 1) := by decide +kernel
theorem dX4_number_59 : decode cX4_number 59 = .ok (.iconst (-1), 1) := by decide +kernel
theorem dX4_number_60 : decode cX4_number 60 = .ok (.ldc 92, 2) := by decide +kernel
theorem dX4_number_62 : decode cX4_number 62 = .ok (.iload_n 1, 1) := by decide +kernel
theorem dX4_number_63 : decode cX4_number 63 = .ok (.invokestatic 73, 3) := by decide +kernel
theorem dX4_number_66 : decode cX4_number 66 = .ok (.aload_n 2, 1) := by decide +kernel
theorem dX4_number_67 : decode cX4_number 67 = .ok (.invokespecial 77, 3) := by decide +kernel
theorem dX4_number_70 : decode cX4_number 70 = .ok (.invokevirtual 80, 3) := by decide +kernel
theorem dX4_number_73 : decode cX4_number 73 = .ok (.ireturn, 1) := by decide +kernel
theorem dX4_term_0 : decode cX4_term 0 = .ok (.aload_n 0, 1) := by decide +kernel
theorem dX4_term_1 : decode cX4_term 1 = .ok (.iload_n 1, 1) := by decide +kernel
theorem dX4_term_2 : decode cX4_term 2 = .ok (.invokevirtual 94, 3) := by decide +kernel
theorem dX4_term_5 : decode cX4_term 5 = .ok (.ifCond .ne 13, 3) := by decide +kernel
theorem dX4_term_8 : decode cX4_term 8 = .ok (.new 37, 3) := by decide +kernel
theorem dX4_term_11 : decode cX4_term 11 = .ok (.dup, 1) := by decide +kernel
theorem dX4_term_12 : decode cX4_term 12 = .ok (.ldc 97, 2) := by decide +kernel
theorem dX4_term_14 : decode cX4_term 14 = .ok (.invokespecial 41, 3) := by decide +kernel
theorem dX4_term_17 : decode cX4_term 17 = .ok (.athrow, 1) := by decide +kernel
theorem dX4_term_18 : decode cX4_term 18 = .ok (.aload_n 0, 1) := by decide +kernel
theorem dX4_term_19 : decode cX4_term 19 = .ok (.getfield 21, 3) := by decide +kernel
theorem dX4_term_22 : decode cX4_term 22 = .ok (.iload_n 1, 1) := by decide +kernel
theorem dX4_term_23 : decode cX4_term 23 = .ok (.invokevirtual 99, 3) := by decide +kernel
theorem dX4_term_26 : decode cX4_term 26 = .ok (.checkcast 103, 3) := by decide +kernel
theorem dX4_term_29 : decode cX4_term 29 = .ok (.astore_n 2, 1) := by decide +kernel
theorem dX4_term_30 : decode cX4_term 30 = .ok (.aload_n 0, 1) := by decide +kernel
theorem dX4_term_31 : decode cX4_term 31 = .ok (.getfield 17, 3) := by decide +kernel
theorem dX4_term_34 : decode cX4_term 34 = .ok (.invokevirtual 60, 3) := by decide +kernel
theorem dX4_term_37 : decode cX4_term 37 = .ok (.bipush 8, 2) := by decide +kernel
theorem dX4_term_39 : decode cX4_term 39 = .ok (.if_icmp .ge 12, 3) := by decide +kernel
theorem dX4_term_42 : decode cX4_term 42 = .ok (.aload_n 2, 1) := by decide +kernel
theorem dX4_term_43 : decode cX4_term 43 = .ok (.getfield 105, 3) := by decide +kernel
theorem dX4_term_46 : decode cX4_term 46 = .ok (.bipush 6, 2) := by decide +kernel
theorem dX4_term_48 : decode cX4_term 48 = .ok (.if_icmp .lt 13, 3) := by decide +kernel
theorem dX4_term_51 : decode cX4_term 51 = .ok (.new 64, 3) := by decide +kernel
theorem dX4_term_54 : decode cX4_term 54 = .ok (.dup, 1) := by decide +kernel
theorem dX4_term_55 : decode cX4_term 55 = .ok (.ldc 109, 2) := by decide +kernel
theorem dX4_term_57 : decode cX4_term 57 = .ok (.invokespecial 68, 3) := by decide +kernel
theorem dX4_term_60 : decode cX4_term 60 = .ok (.athrow, 1) := by decide +kernel
theorem dX4_term_61 : decode cX4_term 61 = .ok (.aload_n 0, 1) := by decide +kernel
theorem dX4_term_62 : decode cX4_term 62 = .ok (.new 69, 3) := by decide +kernel
theorem dX4_term_65 : decode cX4_term 65 = .ok (.dup, 1) := by decide +kernel
theorem dX4_term_66 : decode cX4_term 66 = .ok (.aload_n 2, 1) := by decide +kernel
theorem dX4_term_67 : decode cX4_term 67 = .ok (.getfield 105, 3) := by decide +kernel
theorem dX4_term_70 : decode cX4_term 70 = .ok (.iconst 1, 1) := by decide +kernel
theorem dX4_term_71 : decode cX4_term 71 = .ok (.iadd, 1) := by decide +kernel
theorem dX4_term_72 : decode cX4_term 72 = .ok (.iload_n 1, 1) := by decide +kernel
theorem dX4_term_73 : decode cX4_term 73 = .ok (.ldc 111, 2) := by decide +kernel
theorem dX4_term_75 : decode cX4_term 75 = .ok (.iload_n 1, 1) := by decide +kernel
theorem dX4_term_76 : decode cX4_term 76 = .ok (.invokestatic 73, 3) := by decide +kernel
theorem dX4_term_79 : decode cX4_term 79 = .ok (.aload_n 2, 1) := by decide +kernel
theorem dX4_term_80 : decode cX4_term 80 = .ok (.getfield 113, 3) := by decide +kernel
theorem dX4_term_83 : decode cX4_term 83 = .ok (.invokespecial 77, 3) := by decide +kernel
theorem dX4_term_86 : decode cX4_term 86 = .ok (.invokevirtual 80, 3) := by decide +kernel
theorem dX4_term_89 : decode cX4_term 89 = .ok (.ireturn, 1) := by decide +kernel
theorem dX4_join_0 : decode cX4_join 0 = .ok (.iload_n 1, 1) := by decide +kernel
theorem dX4_join_1 : decode cX4_join 1 = .ok (.iconst 0, 1) := by decide +kernel
theorem dX4_join_2 : decode cX4_join 2 = .ok (.iconst 3, 1) := by decide +kernel
theorem dX4_join_3 : decode cX4_join 3 = .ok (.invokestatic 46, 3) := by decide +kernel
theorem dX4_join_6 : decode cX4_join 6 = .ok (.ifCond .ne 13, 3) := by decide +kernel
theorem dX4_join_9 : decode cX4_join 9 = .ok (.new 50, 3) := by decide +kernel
theorem dX4_join_12 : decode cX4_join 12 = .ok (.dup, 1) := by decide +kernel
theorem dX4_join_13 : decode cX4_join 13 = .ok (.ldc 117, 2) := by decide +kernel
theorem dX4_join_15 : decode cX4_join 15 = .ok (.invokespecial 54, 3) := by decide +kernel
theorem dX4_join_18 : decode cX4_join 18 = .ok (.athrow, 1) := by decide +kernel
theorem dX4_join_19 : decode cX4_join 19 = .ok (.aload_n 0, 1) := by decide +kernel
theorem dX4_join_20 : decode cX4_join 20 = .ok (.getfield 17, 3) := by decide +kernel
theorem dX4_join_23 : decode cX4_join 23 = .ok (.invokevirtual 60, 3) := by decide +kernel
theorem dX4_join_26 : decode cX4_join 26 = .ok (.istore_n 2, 1) := by decide +kernel
theorem dX4_join_27 : decode cX4_join 27 = .ok (.iload_n 2, 1) := by decide +kernel
theorem dX4_join_28 : decode cX4_join 28 = .ok (.iconst 2, 1) := by decide +kernel
theorem dX4_join_29 : decode cX4_join 29 = .ok (.if_icmp .lt 41, 3) := by decide +kernel
theorem dX4_join_32 : decode cX4_join 32 = .ok (.aload_n 0, 1) := by decide +kernel
theorem dX4_join_33 : decode cX4_join 33 = .ok (.getfield 17, 3) := by decide +kernel
theorem dX4_join_36 : decode cX4_join 36 = .ok (.iload_n 2, 1) := by decide +kernel
theorem dX4_join_37 : decode cX4_join 37 = .ok (.iconst 2, 1) := by decide +kernel
theorem dX4_join_38 : decode cX4_join 38 = .ok (.isub, 1) := by decide +kernel
theorem dX4_join_39 : decode cX4_join 39 = .ok (.invokevirtual 99, 3) := by decide +kernel
theorem dX4_join_42 : decode cX4_join 42 = .ok (.checkcast 69, 3) := by decide +kernel
theorem dX4_join_45 : decode cX4_join 45 = .ok (.invokestatic 119, 3) := by decide +kernel
theorem dX4_join_48 : decode cX4_join 48 = .ok (.ifCond .eq 22, 3) := by decide +kernel
theorem dX4_join_51 : decode cX4_join 51 = .ok (.aload_n 0, 1) := by decide +kernel
theorem dX4_join_52 : decode cX4_join 52 = .ok (.getfield 17, 3) := by decide +kernel
theorem dX4_join_55 : decode cX4_join 55 = .ok (.iload_n 2, 1) := by decide +kernel
theorem dX4_join_56 : decode cX4_join 56 = .ok (.iconst 1, 1) := by decide +kernel
theorem dX4_join_57 : decode cX4_join 57 = .ok (.isub, 1) := by decide +kernel
theorem dX4_join_58 : decode cX4_join 58 = .ok (.invokevirtual 99, 3) := by decide +kernel
theorem dX4_join_61 : decode cX4_join 61 = .ok (.checkcast 69, 3) := by decide +kernel
theorem dX4_join_64 : decode cX4_join 64 = .ok (.invokestatic 119, 3) := by decide +kernel
theorem dX4_join_67 : decode cX4_join 67 = .ok (.ifCond .ne 13, 3) := by decide +kernel
theorem dX4_join_70 : decode cX4_join 70 = .ok (.new 64, 3) := by decide +kernel
theorem dX4_join_73 : decode cX4_join 73 = .ok (.dup, 1) := by decide +kernel
theorem dX4_join_74 : decode cX4_join 74 = .ok (.ldc 123, 2) := by decide +kernel
theorem dX4_join_76 : decode cX4_join 76 = .ok (.invokespecial 68, 3) := by decide +kernel
theorem dX4_join_79 : decode cX4_join 79 = .ok (.athrow, 1) := by decide +kernel
theorem dX4_join_80 : decode cX4_join 80 = .ok (.aload_n 0, 1) := by decide +kernel
theorem dX4_join_81 : decode cX4_join 81 = .ok (.getfield 17, 3) := by decide +kernel
theorem dX4_join_84 : decode cX4_join 84 = .ok (.iload_n 2, 1) := by decide +kernel
theorem dX4_join_85 : decode cX4_join 85 = .ok (.iconst 1, 1) := by decide +kernel
theorem dX4_join_86 : decode cX4_join 86 = .ok (.isub, 1) := by decide +kernel
theorem dX4_join_87 : decode cX4_join 87 = .ok (.invokevirtual 125, 3) := by decide +kernel
theorem dX4_join_90 : decode cX4_join 90 = .ok (.checkcast 69, 3) := by decide +kernel
theorem dX4_join_93 : decode cX4_join 93 = .ok (.astore_n 3, 1) := by decide +kernel
theorem dX4_join_94 : decode cX4_join 94 = .ok (.aload_n 0, 1) := by decide +kernel
theorem dX4_join_95 : decode cX4_join 95 = .ok (.getfield 17, 3) := by decide +kernel
theorem dX4_join_98 : decode cX4_join 98 = .ok (.iload_n 2, 1) := by decide +kernel
theorem dX4_join_99 : decode cX4_join 99 = .ok (.iconst 2, 1) := by decide +kernel
theorem dX4_join_100 : decode cX4_join 100 = .ok (.isub, 1) := by decide +kernel
theorem dX4_join_101 : decode cX4_join 101 = .ok (.invokevirtual 125, 3) := by decide +kernel
theorem dX4_join_104 : decode cX4_join 104 = .ok (.checkcast 69, 3) := by decide +kernel
theorem dX4_join_107 : decode cX4_join 107 = .ok (.astore 4, 2) := by decide +kernel
theorem dX4_join_109 : decode cX4_join 109 = .ok (.aload_n 0, 1) := by decide +kernel
theorem dX4_join_110 : decode cX4_join 110 = .ok (.new 69, 3) := by decide +kernel
theorem dX4_join_113 : decode cX4_join 113 = .ok (.dup, 1) := by decide +kernel
theorem dX4_join_114 : decode cX4_join 114 = .ok (.iload_n 1, 1) := by decide +kernel
theorem dX4_join_115 : decode cX4_join 115 = .ok (.iconst 0, 1) := by decide +kernel
theorem dX4_join_116 : decode cX4_join 116 = .ok (.aload 4, 2) := by decide +kernel
theorem dX4_join_118 : decode cX4_join 118 = .ok (.aload_n 3, 1) := by decide +kernel
theorem dX4_join_119 : decode cX4_join 119 = .ok (.iload_n 1, 1) := by decide +kernel
theorem dX4_join_120 : decode cX4_join 120 = .ok (.aload 4, 2) := by decide +kernel
theorem dX4_join_122 : decode cX4_join 122 = .ok (.getfield 128, 3) := by decide +kernel
theorem dX4_join_125 : decode cX4_join 125 = .ok (.aload_n 3, 1) := by decide +kernel
theorem dX4_join_126 : decode cX4_join 126 = .ok (.getfield 128, 3) := by decide +kernel
theorem dX4_join_129 : decode cX4_join 129 = .ok (.invokestatic 132, 3) := by decide +kernel
theorem dX4_join_132 : decode cX4_join 132 = .ok (.invokespecial 136, 3) := by decide +kernel
theorem dX4_join_135 : decode cX4_join 135 = .ok (.invokevirtual 80, 3) := by decide +kernel
theorem dX4_join_138 : decode cX4_join 138 = .ok (.ireturn, 1) := by decide +kernel
theorem dX4_share_0 : decode cX4_share 0 = .ok (.iload_n 1, 1) := by decide +kernel
theorem dX4_share_1 : decode cX4_share 1 = .ok (.iconst 0, 1) := by decide +kernel
theorem dX4_share_2 : decode cX4_share 2 = .ok (.bipush 100, 2) := by decide +kernel
theorem dX4_share_4 : decode cX4_share 4 = .ok (.invokestatic 46, 3) := by decide +kernel
theorem dX4_share_7 : decode cX4_share 7 = .ok (.ifCond .ne 13, 3) := by decide +kernel
theorem dX4_share_10 : decode cX4_share 10 = .ok (.new 50, 3) := by decide +kernel
theorem dX4_share_13 : decode cX4_share 13 = .ok (.dup, 1) := by decide +kernel
theorem dX4_share_14 : decode cX4_share 14 = .ok (.ldc 139, 2) := by decide +kernel
theorem dX4_share_16 : decode cX4_share 16 = .ok (.invokespecial 54, 3) := by decide +kernel
theorem dX4_share_19 : decode cX4_share 19 = .ok (.athrow, 1) := by decide +kernel
theorem dX4_share_20 : decode cX4_share 20 = .ok (.aload_n 0, 1) := by decide +kernel
theorem dX4_share_21 : decode cX4_share 21 = .ok (.getfield 17, 3) := by decide +kernel
theorem dX4_share_24 : decode cX4_share 24 = .ok (.invokevirtual 60, 3) := by decide +kernel
theorem dX4_share_27 : decode cX4_share 27 = .ok (.istore_n 2, 1) := by decide +kernel
theorem dX4_share_28 : decode cX4_share 28 = .ok (.iload_n 2, 1) := by decide +kernel
theorem dX4_share_29 : decode cX4_share 29 = .ok (.ifCond .eq 22, 3) := by decide +kernel
theorem dX4_share_32 : decode cX4_share 32 = .ok (.aload_n 0, 1) := by decide +kernel
theorem dX4_share_33 : decode cX4_share 33 = .ok (.getfield 17, 3) := by decide +kernel
theorem dX4_share_36 : decode cX4_share 36 = .ok (.iload_n 2, 1) := by decide +kernel
theorem dX4_share_37 : decode cX4_share 37 = .ok (.iconst 1, 1) := by decide +kernel
theorem dX4_share_38 : decode cX4_share 38 = .ok (.isub, 1) := by decide +kernel
theorem dX4_share_39 : decode cX4_share 39 = .ok (.invokevirtual 99, 3) := by decide +kernel
theorem dX4_share_42 : decode cX4_share 42 = .ok (.checkcast 69, 3) := by decide +kernel
theorem dX4_share_45 : decode cX4_share 45 = .ok (.invokestatic 119, 3) := by decide +kernel
theorem dX4_share_48 : decode cX4_share 48 = .ok (.ifCond .ne 13, 3) := by decide +kernel
theorem dX4_share_51 : decode cX4_share 51 = .ok (.new 64, 3) := by decide +kernel
theorem dX4_share_54 : decode cX4_share 54 = .ok (.dup, 1) := by decide +kernel
theorem dX4_share_55 : decode cX4_share 55 = .ok (.ldc 141, 2) := by decide +kernel
theorem dX4_share_57 : decode cX4_share 57 = .ok (.invokespecial 68, 3) := by decide +kernel
theorem dX4_share_60 : decode cX4_share 60 = .ok (.athrow, 1) := by decide +kernel
theorem dX4_share_61 : decode cX4_share 61 = .ok (.aload_n 0, 1) := by decide +kernel
theorem dX4_share_62 : decode cX4_share 62 = .ok (.getfield 17, 3) := by decide +kernel
theorem dX4_share_65 : decode cX4_share 65 = .ok (.iload_n 2, 1) := by decide +kernel
theorem dX4_share_66 : decode cX4_share 66 = .ok (.iconst 1, 1) := by decide +kernel
theorem dX4_share_67 : decode cX4_share 67 = .ok (.isub, 1) := by decide +kernel
theorem dX4_share_68 : decode cX4_share 68 = .ok (.invokevirtual 125, 3) := by decide +kernel
theorem dX4_share_71 : decode cX4_share 71 = .ok (.checkcast 69, 3) := by decide +kernel
theorem dX4_share_74 : decode cX4_share 74 = .ok (.astore_n 3, 1) := by decide +kernel
theorem dX4_share_75 : decode cX4_share 75 = .ok (.new 69, 3) := by decide +kernel
theorem dX4_share_78 : decode cX4_share 78 = .ok (.dup, 1) := by decide +kernel
theorem dX4_share_79 : decode cX4_share 79 = .ok (.iconst 5, 1) := by decide +kernel
theorem dX4_share_80 : decode cX4_share 80 = .ok (.iload_n 1, 1) := by decide +kernel
theorem dX4_share_81 : decode cX4_share 81 = .ok (.aload_n 3, 1) := by decide +kernel
theorem dX4_share_82 : decode cX4_share 82 = .ok (.aconst_null, 1) := by decide +kernel
theorem dX4_share_83 : decode cX4_share 83 = .ok (.iload_n 1, 1) := by decide +kernel
theorem dX4_share_84 : decode cX4_share 84 = .ok (.aload_n 3, 1) := by decide +kernel
theorem dX4_share_85 : decode cX4_share 85 = .ok (.getfield 128, 3) := by decide +kernel
theorem dX4_share_88 : decode cX4_share 88 = .ok (.invokestatic 143, 3) := by decide +kernel
theorem dX4_share_91 : decode cX4_share 91 = .ok (.invokespecial 136, 3) := by decide +kernel
theorem dX4_share_94 : decode cX4_share 94 = .ok (.astore 4, 2) := by decide +kernel
theorem dX4_share_96 : decode cX4_share 96 = .ok (.aload_n 0, 1) := by decide +kernel
theorem dX4_share_97 : decode cX4_share 97 = .ok (.aload 4, 2) := by decide +kernel
theorem dX4_share_99 : decode cX4_share 99 = .ok (.invokevirtual 80, 3) := by decide +kernel
theorem dX4_share_102 : decode cX4_share 102 = .ok (.pop, 1) := by decide +kernel
theorem dX4_share_103 : decode cX4_share 103 = .ok (.aload 4, 2) := by decide +kernel
theorem dX4_share_105 : decode cX4_share 105 = .ok (.getfield 147, 3) := by decide +kernel
theorem dX4_share_108 : decode cX4_share 108 = .ok (.ireturn, 1) := by decide +kernel
theorem dX4_year_0 : decode cX4_year 0 = .ok (.aload_n 0, 1) := by decide +kernel
theorem dX4_year_1 : decode cX4_year 1 = .ok (.getfield 17, 3) := by decide +kernel
theorem dX4_year_4 : decode cX4_year 4 = .ok (.invokevirtual 60, 3) := by decide +kernel
theorem dX4_year_7 : decode cX4_year 7 = .ok (.istore_n 1, 1) := by decide +kernel
theorem dX4_year_8 : decode cX4_year 8 = .ok (.iload_n 1, 1) := by decide +kernel
theorem dX4_year_9 : decode cX4_year 9 = .ok (.ifCond .eq 22, 3) := by decide +kernel
theorem dX4_year_12 : decode cX4_year 12 = .ok (.aload_n 0, 1) := by decide +kernel
theorem dX4_year_13 : decode cX4_year 13 = .ok (.getfield 17, 3) := by decide +kernel
theorem dX4_year_16 : decode cX4_year 16 = .ok (.iload_n 1, 1) := by decide +kernel
theorem dX4_year_17 : decode cX4_year 17 = .ok (.iconst 1, 1) := by decide +kernel
theorem dX4_year_18 : decode cX4_year 18 = .ok (.isub, 1) := by decide +kernel
theorem dX4_year_19 : decode cX4_year 19 = .ok (.invokevirtual 99, 3) := by decide +kernel
theorem dX4_year_22 : decode cX4_year 22 = .ok (.checkcast 69, 3) := by decide +kernel
theorem dX4_year_25 : decode cX4_year 25 = .ok (.invokestatic 119, 3) := by decide +kernel
theorem dX4_year_28 : decode cX4_year 28 = .ok (.ifCond .ne 13, 3) := by decide +kernel
theorem dX4_year_31 : decode cX4_year 31 = .ok (.new 64, 3) := by decide +kernel
theorem dX4_year_34 : decode cX4_year 34 = .ok (.dup, 1) := by decide +kernel
theorem dX4_year_35 : decode cX4_year 35 = .ok (.ldc 141, 2) := by decide +kernel
theorem dX4_year_37 : decode cX4_year 37 = .ok (.invokespecial 68, 3) := by decide +kernel
theorem dX4_year_40 : decode cX4_year 40 = .ok (.athrow, 1) := by decide +kernel
theorem dX4_year_41 : decode cX4_year 41 = .ok (.aload_n 0, 1) := by decide +kernel
theorem dX4_year_42 : decode cX4_year 42 = .ok (.getfield 17, 3) := by decide +kernel
theorem dX4_year_45 : decode cX4_year 45 = .ok (.iload_n 1, 1) := by decide +kernel
theorem dX4_year_46 : decode cX4_year 46 = .ok (.iconst 1, 1) := by decide +kernel
theorem dX4_year_47 : decode cX4_year 47 = .ok (.isub, 1) := by decide +kernel
theorem dX4_year_48 : decode cX4_year 48 = .ok (.invokevirtual 125, 3) := by decide +kernel
theorem dX4_year_51 : decode cX4_year 51 = .ok (.checkcast 69, 3) := by decide +kernel
theorem dX4_year_54 : decode cX4_year 54 = .ok (.astore_n 2, 1) := by decide +kernel
theorem dX4_year_55 : decode cX4_year 55 = .ok (.new 69, 3) := by decide +kernel
theorem dX4_year_58 : decode cX4_year 58 = .ok (.dup, 1) := by decide +kernel
theorem dX4_year_59 : decode cX4_year 59 = .ok (.bipush 6, 2) := by decide +kernel
theorem dX4_year_61 : decode cX4_year 61 = .ok (.iconst 0, 1) := by decide +kernel
theorem dX4_year_62 : decode cX4_year 62 = .ok (.aload_n 2, 1) := by decide +kernel
theorem dX4_year_63 : decode cX4_year 63 = .ok (.aconst_null, 1) := by decide +kernel
theorem dX4_year_64 : decode cX4_year 64 = .ok (.aload_n 2, 1) := by decide +kernel
theorem dX4_year_65 : decode cX4_year 65 = .ok (.getfield 128, 3) := by decide +kernel
theorem dX4_year_68 : decode cX4_year 68 = .ok (.invokestatic 148, 3) := by decide +kernel
theorem dX4_year_71 : decode cX4_year 71 = .ok (.invokespecial 136, 3) := by decide +kernel
theorem dX4_year_74 : decode cX4_year 74 = .ok (.astore_n 3, 1) := by decide +kernel
theorem dX4_year_75 : decode cX4_year 75 = .ok (.aload_n 0, 1) := by decide +kernel
theorem dX4_year_76 : decode cX4_year 76 = .ok (.aload_n 3, 1) := by decide +kernel
theorem dX4_year_77 : decode cX4_year 77 = .ok (.invokevirtual 80, 3) := by decide +kernel
theorem dX4_year_80 : decode cX4_year 80 = .ok (.pop, 1) := by decide +kernel
theorem dX4_year_81 : decode cX4_year 81 = .ok (.aload_n 3, 1) := by decide +kernel
theorem dX4_year_82 : decode cX4_year 82 = .ok (.getfield 147, 3) := by decide +kernel
theorem dX4_year_85 : decode cX4_year 85 = .ok (.ireturn, 1) := by decide +kernel
theorem dX4_clear_0 : decode cX4_clear 0 = .ok (.aload_n 0, 1) := by decide +kernel
theorem dX4_clear_1 : decode cX4_clear 1 = .ok (.getfield 17, 3) := by decide +kernel
theorem dX4_clear_4 : decode cX4_clear 4 = .ok (.invokevirtual 60, 3) := by decide +kernel
theorem dX4_clear_7 : decode cX4_clear 7 = .ok (.istore_n 1, 1) := by decide +kernel
theorem dX4_clear_8 : decode cX4_clear 8 = .ok (.aload_n 0, 1) := by decide +kernel
theorem dX4_clear_9 : decode cX4_clear 9 = .ok (.getfield 17, 3) := by decide +kernel
theorem dX4_clear_12 : decode cX4_clear 12 = .ok (.invokevirtual 152, 3) := by decide +kernel
theorem dX4_clear_15 : decode cX4_clear 15 = .ok (.iload_n 1, 1) := by decide +kernel
theorem dX4_clear_16 : decode cX4_clear 16 = .ok (.ireturn, 1) := by decide +kernel
theorem dX4_push_0 : decode cX4_push 0 = .ok (.aload_n 0, 1) := by decide +kernel
theorem dX4_push_1 : decode cX4_push 1 = .ok (.getfield 17, 3) := by decide +kernel
theorem dX4_push_4 : decode cX4_push 4 = .ok (.aload_n 1, 1) := by decide +kernel
theorem dX4_push_5 : decode cX4_push 5 = .ok (.invokevirtual 155, 3) := by decide +kernel
theorem dX4_push_8 : decode cX4_push 8 = .ok (.pop, 1) := by decide +kernel
theorem dX4_push_9 : decode cX4_push 9 = .ok (.aload_n 0, 1) := by decide +kernel
theorem dX4_push_10 : decode cX4_push 10 = .ok (.getfield 17, 3) := by decide +kernel
theorem dX4_push_13 : decode cX4_push 13 = .ok (.invokevirtual 60, 3) := by decide +kernel
theorem dX4_push_16 : decode cX4_push 16 = .ok (.ireturn, 1) := by decide +kernel
theorem dX4_canGrow_0 : decode cX4_canGrow 0 = .ok (.aload_n 0, 1) := by decide +kernel
theorem dX4_canGrow_1 : decode cX4_canGrow 1 = .ok (.getfield 147, 3) := by decide +kernel
theorem dX4_canGrow_4 : decode cX4_canGrow 4 = .ok (.bipush 6, 2) := by decide +kernel
theorem dX4_canGrow_6 : decode cX4_canGrow 6 = .ok (.if_icmp .ge 7, 3) := by decide +kernel
theorem dX4_canGrow_9 : decode cX4_canGrow 9 = .ok (.iconst 1, 1) := by decide +kernel
theorem dX4_canGrow_10 : decode cX4_canGrow 10 = .ok (.goto 4, 3) := by decide +kernel
theorem dX4_canGrow_13 : decode cX4_canGrow 13 = .ok (.iconst 0, 1) := by decide +kernel
theorem dX4_canGrow_14 : decode cX4_canGrow 14 = .ok (.ireturn, 1) := by decide +kernel
theorem dX4_numbered_0 : decode cX4_numbered 0 = .ok (.new 159, 3) := by decide +kernel
theorem dX4_numbered_3 : decode cX4_numbered 3 = .ok (.dup, 1) := by decide +kernel
theorem dX4_numbered_4 : decode cX4_numbered 4 = .ok (.invokespecial 161, 3) := by decide +kernel
theorem dX4_numbered_7 : decode cX4_numbered 7 = .ok (.astore_n 2, 1) := by decide +kernel
theorem dX4_numbered_8 : decode cX4_numbered 8 = .ok (.aload_n 2, 1) := by decide +kernel
theorem dX4_numbered_9 : decode cX4_numbered 9 = .ok (.aload_n 0, 1) := by decide +kernel
theorem dX4_numbered_10 : decode cX4_numbered 10 = .ok (.invokevirtual 162, 3) := by decide +kernel
theorem dX4_numbered_13 : decode cX4_numbered 13 = .ok (.iload_n 1, 1) := by decide +kernel
theorem dX4_numbered_14 : decode cX4_numbered 14 = .ok (.invokevirtual 166, 3) := by decide +kernel
theorem dX4_numbered_17 : decode cX4_numbered 17 = .ok (.pop, 1) := by decide +kernel
theorem dX4_numbered_18 : decode cX4_numbered 18 = .ok (.aload_n 2, 1) := by decide +kernel
theorem dX4_numbered_19 : decode cX4_numbered 19 = .ok (.invokevirtual 169, 3) := by decide +kernel
theorem dX4_numbered_22 : decode cX4_numbered 22 = .ok (.areturn, 1) := by decide +kernel
theorem dX4_joinText_0 : decode cX4_joinText 0 = .ok (.new 159, 3) := by decide +kernel
theorem dX4_joinText_3 : decode cX4_joinText 3 = .ok (.dup, 1) := by decide +kernel
theorem dX4_joinText_4 : decode cX4_joinText 4 = .ok (.invokespecial 161, 3) := by decide +kernel
theorem dX4_joinText_7 : decode cX4_joinText 7 = .ok (.astore_n 3, 1) := by decide +kernel
theorem dX4_joinText_8 : decode cX4_joinText 8 = .ok (.iload_n 0, 1) := by decide +kernel
theorem dX4_joinText_9 : decode cX4_joinText 9 = .ok (.iconst 2, 1) := by decide +kernel
theorem dX4_joinText_10 : decode cX4_joinText 10 = .ok (.if_icmp .ne 13, 3) := by decide +kernel
theorem dX4_joinText_13 : decode cX4_joinText 13 = .ok (.aload_n 3, 1) := by decide +kernel
theorem dX4_joinText_14 : decode cX4_joinText 14 = .ok (.ldc 173, 2) := by decide +kernel
theorem dX4_joinText_16 : decode cX4_joinText 16 = .ok (.invokevirtual 162, 3) := by decide +kernel
theorem dX4_joinText_19 : decode cX4_joinText 19 = .ok (.pop, 1) := by decide +kernel
theorem dX4_joinText_20 : decode cX4_joinText 20 = .ok (.goto 15, 3) := by decide +kernel
theorem dX4_joinText_23 : decode cX4_joinText 23 = .ok (.iload_n 0, 1) := by decide +kernel
theorem dX4_joinText_24 : decode cX4_joinText 24 = .ok (.iconst 3, 1) := by decide +kernel
theorem dX4_joinText_25 : decode cX4_joinText 25 = .ok (.if_icmp .ne 10, 3) := by decide +kernel
theorem dX4_joinText_28 : decode cX4_joinText 28 = .ok (.aload_n 3, 1) := by decide +kernel
theorem dX4_joinText_29 : decode cX4_joinText 29 = .ok (.ldc 175, 2) := by decide +kernel
theorem dX4_joinText_31 : decode cX4_joinText 31 = .ok (.invokevirtual 162, 3) := by decide +kernel
theorem dX4_joinText_34 : decode cX4_joinText 34 = .ok (.pop, 1) := by decide +kernel
theorem dX4_joinText_35 : decode cX4_joinText 35 = .ok (.aload_n 3, 1) := by decide +kernel
theorem dX4_joinText_36 : decode cX4_joinText 36 = .ok (.bipush 40, 2) := by decide +kernel
theorem dX4_joinText_38 : decode cX4_joinText 38 = .ok (.invokevirtual 177, 3) := by decide +kernel
theorem dX4_joinText_41 : decode cX4_joinText 41 = .ok (.aload_n 1, 1) := by decide +kernel
theorem dX4_joinText_42 : decode cX4_joinText 42 = .ok (.invokevirtual 162, 3) := by decide +kernel
theorem dX4_joinText_45 : decode cX4_joinText 45 = .ok (.pop, 1) := by decide +kernel
theorem dX4_joinText_46 : decode cX4_joinText 46 = .ok (.iload_n 0, 1) := by decide +kernel
theorem dX4_joinText_47 : decode cX4_joinText 47 = .ok (.ifCond .ne 13, 3) := by decide +kernel
theorem dX4_joinText_50 : decode cX4_joinText 50 = .ok (.aload_n 3, 1) := by decide +kernel
theorem dX4_joinText_51 : decode cX4_joinText 51 = .ok (.ldc 180, 2) := by decide +kernel
theorem dX4_joinText_53 : decode cX4_joinText 53 = .ok (.invokevirtual 162, 3) := by decide +kernel
theorem dX4_joinText_56 : decode cX4_joinText 56 = .ok (.pop, 1) := by decide +kernel
theorem dX4_joinText_57 : decode cX4_joinText 57 = .ok (.goto 25, 3) := by decide +kernel
theorem dX4_joinText_60 : decode cX4_joinText 60 = .ok (.iload_n 0, 1) := by decide +kernel
theorem dX4_joinText_61 : decode cX4_joinText 61 = .ok (.iconst 1, 1) := by decide +kernel
theorem dX4_joinText_62 : decode cX4_joinText 62 = .ok (.if_icmp .ne 13, 3) := by decide +kernel
theorem dX4_joinText_65 : decode cX4_joinText 65 = .ok (.aload_n 3, 1) := by decide +kernel
theorem dX4_joinText_66 : decode cX4_joinText 66 = .ok (.ldc 182, 2) := by decide +kernel
theorem dX4_joinText_68 : decode cX4_joinText 68 = .ok (.invokevirtual 162, 3) := by decide +kernel
theorem dX4_joinText_71 : decode cX4_joinText 71 = .ok (.pop, 1) := by decide +kernel
theorem dX4_joinText_72 : decode cX4_joinText 72 = .ok (.goto 10, 3) := by decide +kernel
theorem dX4_joinText_75 : decode cX4_joinText 75 = .ok (.aload_n 3, 1) := by decide +kernel
theorem dX4_joinText_76 : decode cX4_joinText 76 = .ok (.ldc 184, 2) := by decide +kernel
theorem dX4_joinText_78 : decode cX4_joinText 78 = .ok (.invokevirtual 162, 3) := by decide +kernel
theorem dX4_joinText_81 : decode cX4_joinText 81 = .ok (.pop, 1) := by decide +kernel
theorem dX4_joinText_82 : decode cX4_joinText 82 = .ok (.aload_n 3, 1) := by decide +kernel
theorem dX4_joinText_83 : decode cX4_joinText 83 = .ok (.aload_n 2, 1) := by decide +kernel
theorem dX4_joinText_84 : decode cX4_joinText 84 = .ok (.invokevirtual 162, 3) := by decide +kernel
theorem dX4_joinText_87 : decode cX4_joinText 87 = .ok (.bipush 41, 2) := by decide +kernel
theorem dX4_joinText_89 : decode cX4_joinText 89 = .ok (.invokevirtual 177, 3) := by decide +kernel
theorem dX4_joinText_92 : decode cX4_joinText 92 = .ok (.pop, 1) := by decide +kernel
theorem dX4_joinText_93 : decode cX4_joinText 93 = .ok (.aload_n 3, 1) := by decide +kernel
theorem dX4_joinText_94 : decode cX4_joinText 94 = .ok (.invokevirtual 169, 3) := by decide +kernel
theorem dX4_joinText_97 : decode cX4_joinText 97 = .ok (.areturn, 1) := by decide +kernel
theorem dX4_shareText_0 : decode cX4_shareText 0 = .ok (.new 159, 3) := by decide +kernel
theorem dX4_shareText_3 : decode cX4_shareText 3 = .ok (.dup, 1) := by decide +kernel
theorem dX4_shareText_4 : decode cX4_shareText 4 = .ok (.invokespecial 161, 3) := by decide +kernel
theorem dX4_shareText_7 : decode cX4_shareText 7 = .ok (.astore_n 2, 1) := by decide +kernel
theorem dX4_shareText_8 : decode cX4_shareText 8 = .ok (.aload_n 2, 1) := by decide +kernel
theorem dX4_shareText_9 : decode cX4_shareText 9 = .ok (.iload_n 0, 1) := by decide +kernel
theorem dX4_shareText_10 : decode cX4_shareText 10 = .ok (.invokevirtual 166, 3) := by decide +kernel
theorem dX4_shareText_13 : decode cX4_shareText 13 = .ok (.ldc 186, 2) := by decide +kernel
theorem dX4_shareText_15 : decode cX4_shareText 15 = .ok (.invokevirtual 162, 3) := by decide +kernel
theorem dX4_shareText_18 : decode cX4_shareText 18 = .ok (.aload_n 1, 1) := by decide +kernel
theorem dX4_shareText_19 : decode cX4_shareText 19 = .ok (.invokevirtual 162, 3) := by decide +kernel
theorem dX4_shareText_22 : decode cX4_shareText 22 = .ok (.pop, 1) := by decide +kernel
theorem dX4_shareText_23 : decode cX4_shareText 23 = .ok (.aload_n 2, 1) := by decide +kernel
theorem dX4_shareText_24 : decode cX4_shareText 24 = .ok (.invokevirtual 169, 3) := by decide +kernel
theorem dX4_shareText_27 : decode cX4_shareText 27 = .ok (.areturn, 1) := by decide +kernel
theorem dX4_yearText_0 : decode cX4_yearText 0 = .ok (.new 159, 3) := by decide +kernel
theorem dX4_yearText_3 : decode cX4_yearText 3 = .ok (.dup, 1) := by decide +kernel
theorem dX4_yearText_4 : decode cX4_yearText 4 = .ok (.invokespecial 161, 3) := by decide +kernel
theorem dX4_yearText_7 : decode cX4_yearText 7 = .ok (.astore_n 1, 1) := by decide +kernel
theorem dX4_yearText_8 : decode cX4_yearText 8 = .ok (.aload_n 1, 1) := by decide +kernel
theorem dX4_yearText_9 : decode cX4_yearText 9 = .ok (.ldc 188, 2) := by decide +kernel
theorem dX4_yearText_11 : decode cX4_yearText 11 = .ok (.invokevirtual 162, 3) := by decide +kernel
theorem dX4_yearText_14 : decode cX4_yearText 14 = .ok (.aload_n 0, 1) := by decide +kernel
theorem dX4_yearText_15 : decode cX4_yearText 15 = .ok (.invokevirtual 162, 3) := by decide +kernel
theorem dX4_yearText_18 : decode cX4_yearText 18 = .ok (.bipush 41, 2) := by decide +kernel
theorem dX4_yearText_20 : decode cX4_yearText 20 = .ok (.invokevirtual 177, 3) := by decide +kernel
theorem dX4_yearText_23 : decode cX4_yearText 23 = .ok (.pop, 1) := by decide +kernel
theorem dX4_yearText_24 : decode cX4_yearText 24 = .ok (.aload_n 1, 1) := by decide +kernel
theorem dX4_yearText_25 : decode cX4_yearText 25 = .ok (.invokevirtual 169, 3) := by decide +kernel
theorem dX4_yearText_28 : decode cX4_yearText 28 = .ok (.areturn, 1) := by decide +kernel
theorem dX4_define_0 : decode cX4_define 0 = .ok (.aload_n 0, 1) := by decide +kernel
theorem dX4_define_1 : decode cX4_define 1 = .ok (.getfield 17, 3) := by decide +kernel
theorem dX4_define_4 : decode cX4_define 4 = .ok (.invokevirtual 60, 3) := by decide +kernel
theorem dX4_define_7 : decode cX4_define 7 = .ok (.istore_n 1, 1) := by decide +kernel
theorem dX4_define_8 : decode cX4_define 8 = .ok (.iload_n 1, 1) := by decide +kernel
theorem dX4_define_9 : decode cX4_define 9 = .ok (.ifCond .eq 15, 3) := by decide +kernel
theorem dX4_define_12 : decode cX4_define 12 = .ok (.aload_n 0, 1) := by decide +kernel
theorem dX4_define_13 : decode cX4_define 13 = .ok (.getfield 21, 3) := by decide +kernel
theorem dX4_define_16 : decode cX4_define 16 = .ok (.invokevirtual 60, 3) := by decide +kernel
theorem dX4_define_19 : decode cX4_define 19 = .ok (.bipush 10, 2) := by decide +kernel
theorem dX4_define_21 : decode cX4_define 21 = .ok (.if_icmp .lt 13, 3) := by decide +kernel
theorem dX4_define_24 : decode cX4_define 24 = .ok (.new 64, 3) := by decide +kernel
theorem dX4_define_27 : decode cX4_define 27 = .ok (.dup, 1) := by decide +kernel
theorem dX4_define_28 : decode cX4_define 28 = .ok (.ldc 190, 2) := by decide +kernel
theorem dX4_define_30 : decode cX4_define 30 = .ok (.invokespecial 68, 3) := by decide +kernel
theorem dX4_define_33 : decode cX4_define 33 = .ok (.athrow, 1) := by decide +kernel
theorem dX4_define_34 : decode cX4_define 34 = .ok (.aload_n 0, 1) := by decide +kernel
theorem dX4_define_35 : decode cX4_define 35 = .ok (.getfield 17, 3) := by decide +kernel
theorem dX4_define_38 : decode cX4_define 38 = .ok (.iload_n 1, 1) := by decide +kernel
theorem dX4_define_39 : decode cX4_define 39 = .ok (.iconst 1, 1) := by decide +kernel
theorem dX4_define_40 : decode cX4_define 40 = .ok (.isub, 1) := by decide +kernel
theorem dX4_define_41 : decode cX4_define 41 = .ok (.invokevirtual 125, 3) := by decide +kernel
theorem dX4_define_44 : decode cX4_define 44 = .ok (.checkcast 69, 3) := by decide +kernel
theorem dX4_define_47 : decode cX4_define 47 = .ok (.astore_n 2, 1) := by decide +kernel
theorem dX4_define_48 : decode cX4_define 48 = .ok (.aload_n 0, 1) := by decide +kernel
theorem dX4_define_49 : decode cX4_define 49 = .ok (.getfield 21, 3) := by decide +kernel
theorem dX4_define_52 : decode cX4_define 52 = .ok (.new 103, 3) := by decide +kernel
theorem dX4_define_55 : decode cX4_define 55 = .ok (.dup, 1) := by decide +kernel
theorem dX4_define_56 : decode cX4_define 56 = .ok (.aload_n 2, 1) := by decide +kernel
theorem dX4_define_57 : decode cX4_define 57 = .ok (.invokespecial 192, 3) := by decide +kernel
theorem dX4_define_60 : decode cX4_define 60 = .ok (.invokevirtual 155, 3) := by decide +kernel
theorem dX4_define_63 : decode cX4_define 63 = .ok (.pop, 1) := by decide +kernel
theorem dX4_define_64 : decode cX4_define 64 = .ok (.aload_n 0, 1) := by decide +kernel
theorem dX4_define_65 : decode cX4_define 65 = .ok (.invokevirtual 55, 3) := by decide +kernel
theorem dX4_define_68 : decode cX4_define 68 = .ok (.aload_n 0, 1) := by decide +kernel
theorem dX4_define_69 : decode cX4_define 69 = .ok (.getfield 21, 3) := by decide +kernel
theorem dX4_define_72 : decode cX4_define 72 = .ok (.invokevirtual 60, 3) := by decide +kernel
theorem dX4_define_75 : decode cX4_define 75 = .ok (.iconst 1, 1) := by decide +kernel
theorem dX4_define_76 : decode cX4_define 76 = .ok (.isub, 1) := by decide +kernel
theorem dX4_define_77 : decode cX4_define 77 = .ok (.ireturn, 1) := by decide +kernel
theorem dX4_amend_0 : decode cX4_amend 0 = .ok (.aload_n 0, 1) := by decide +kernel
theorem dX4_amend_1 : decode cX4_amend 1 = .ok (.iload_n 1, 1) := by decide +kernel
theorem dX4_amend_2 : decode cX4_amend 2 = .ok (.invokevirtual 94, 3) := by decide +kernel
theorem dX4_amend_5 : decode cX4_amend 5 = .ok (.ifCond .eq 10, 3) := by decide +kernel
theorem dX4_amend_8 : decode cX4_amend 8 = .ok (.iload_n 2, 1) := by decide +kernel
theorem dX4_amend_9 : decode cX4_amend 9 = .ok (.invokestatic 34, 3) := by decide +kernel
theorem dX4_amend_12 : decode cX4_amend 12 = .ok (.ifCond .ne 13, 3) := by decide +kernel
theorem dX4_amend_15 : decode cX4_amend 15 = .ok (.new 37, 3) := by decide +kernel
theorem dX4_amend_18 : decode cX4_amend 18 = .ok (.dup, 1) := by decide +kernel
theorem dX4_amend_19 : decode cX4_amend 19 = .ok (.ldc 195, 2) := by decide +kernel
theorem dX4_amend_21 : decode cX4_amend 21 = .ok (.invokespecial 41, 3) := by decide +kernel
theorem dX4_amend_24 : decode cX4_amend 24 = .ok (.athrow, 1) := by decide +kernel
theorem dX4_amend_25 : decode cX4_amend 25 = .ok (.aload_n 0, 1) := by decide +kernel
theorem dX4_amend_26 : decode cX4_amend 26 = .ok (.getfield 17, 3) := by decide +kernel
theorem dX4_amend_29 : decode cX4_amend 29 = .ok (.invokevirtual 60, 3) := by decide +kernel
theorem dX4_amend_32 : decode cX4_amend 32 = .ok (.istore_n 3, 1) := by decide +kernel
theorem dX4_amend_33 : decode cX4_amend 33 = .ok (.aload_n 0, 1) := by decide +kernel
theorem dX4_amend_34 : decode cX4_amend 34 = .ok (.getfield 21, 3) := by decide +kernel
theorem dX4_amend_37 : decode cX4_amend 37 = .ok (.iload_n 1, 1) := by decide +kernel
theorem dX4_amend_38 : decode cX4_amend 38 = .ok (.invokevirtual 99, 3) := by decide +kernel
theorem dX4_amend_41 : decode cX4_amend 41 = .ok (.checkcast 103, 3) := by decide +kernel
theorem dX4_amend_44 : decode cX4_amend 44 = .ok (.astore 4, 2) := by decide +kernel
theorem dX4_amend_46 : decode cX4_amend 46 = .ok (.iload_n 3, 1) := by decide +kernel
theorem dX4_amend_47 : decode cX4_amend 47 = .ok (.ifCond .eq 25, 3) := by decide +kernel
theorem dX4_amend_50 : decode cX4_amend 50 = .ok (.aload 4, 2) := by decide +kernel
theorem dX4_amend_52 : decode cX4_amend 52 = .ok (.iload_n 1, 1) := by decide +kernel
theorem dX4_amend_53 : decode cX4_amend 53 = .ok (.aload_n 0, 1) := by decide +kernel
theorem dX4_amend_54 : decode cX4_amend 54 = .ok (.getfield 17, 3) := by decide +kernel
theorem dX4_amend_57 : decode cX4_amend 57 = .ok (.iload_n 3, 1) := by decide +kernel
theorem dX4_amend_58 : decode cX4_amend 58 = .ok (.iconst 1, 1) := by decide +kernel
theorem dX4_amend_59 : decode cX4_amend 59 = .ok (.isub, 1) := by decide +kernel
theorem dX4_amend_60 : decode cX4_amend 60 = .ok (.invokevirtual 99, 3) := by decide +kernel
theorem dX4_amend_63 : decode cX4_amend 63 = .ok (.checkcast 69, 3) := by decide +kernel
theorem dX4_amend_66 : decode cX4_amend 66 = .ok (.invokestatic 197, 3) := by decide +kernel
theorem dX4_amend_69 : decode cX4_amend 69 = .ok (.ifCond .ne 13, 3) := by decide +kernel
theorem dX4_amend_72 : decode cX4_amend 72 = .ok (.new 64, 3) := by decide +kernel
theorem dX4_amend_75 : decode cX4_amend 75 = .ok (.dup, 1) := by decide +kernel
theorem dX4_amend_76 : decode cX4_amend 76 = .ok (.ldc 201, 2) := by decide +kernel
theorem dX4_amend_78 : decode cX4_amend 78 = .ok (.invokespecial 68, 3) := by decide +kernel
theorem dX4_amend_81 : decode cX4_amend 81 = .ok (.athrow, 1) := by decide +kernel
theorem dX4_amend_82 : decode cX4_amend 82 = .ok (.aload_n 0, 1) := by decide +kernel
theorem dX4_amend_83 : decode cX4_amend 83 = .ok (.getfield 17, 3) := by decide +kernel
theorem dX4_amend_86 : decode cX4_amend 86 = .ok (.iload_n 3, 1) := by decide +kernel
theorem dX4_amend_87 : decode cX4_amend 87 = .ok (.iconst 1, 1) := by decide +kernel
theorem dX4_amend_88 : decode cX4_amend 88 = .ok (.isub, 1) := by decide +kernel
theorem dX4_amend_89 : decode cX4_amend 89 = .ok (.invokevirtual 125, 3) := by decide +kernel
theorem dX4_amend_92 : decode cX4_amend 92 = .ok (.checkcast 69, 3) := by decide +kernel
theorem dX4_amend_95 : decode cX4_amend 95 = .ok (.astore 5, 2) := by decide +kernel
theorem dX4_amend_97 : decode cX4_amend 97 = .ok (.aload 4, 2) := by decide +kernel
theorem dX4_amend_99 : decode cX4_amend 99 = .ok (.getfield 203, 3) := by decide +kernel
theorem dX4_amend_102 : decode cX4_amend 102 = .ok (.iload_n 2, 1) := by decide +kernel
theorem dX4_amend_103 : decode cX4_amend 103 = .ok (.aaload, 1) := by decide +kernel
theorem dX4_amend_104 : decode cX4_amend 104 = .ok (.ifnonnull 14, 3) := by decide +kernel
theorem dX4_amend_107 : decode cX4_amend 107 = .ok (.aload 4, 2) := by decide +kernel
theorem dX4_amend_109 : decode cX4_amend 109 = .ok (.dup, 1) := by decide +kernel
theorem dX4_amend_110 : decode cX4_amend 110 = .ok (.getfield 207, 3) := by decide +kernel
theorem dX4_amend_113 : decode cX4_amend 113 = .ok (.iconst 1, 1) := by decide +kernel
theorem dX4_amend_114 : decode cX4_amend 114 = .ok (.iadd, 1) := by decide +kernel
theorem dX4_amend_115 : decode cX4_amend 115 = .ok (.putfield 207, 3) := by decide +kernel
theorem dX4_amend_118 : decode cX4_amend 118 = .ok (.aload 4, 2) := by decide +kernel
theorem dX4_amend_120 : decode cX4_amend 120 = .ok (.getfield 203, 3) := by decide +kernel
theorem dX4_amend_123 : decode cX4_amend 123 = .ok (.iload_n 2, 1) := by decide +kernel
theorem dX4_amend_124 : decode cX4_amend 124 = .ok (.aload 5, 2) := by decide +kernel
theorem dX4_amend_126 : decode cX4_amend 126 = .ok (.aastore, 1) := by decide +kernel
theorem dX4_amend_127 : decode cX4_amend 127 = .ok (.aload_n 0, 1) := by decide +kernel
theorem dX4_amend_128 : decode cX4_amend 128 = .ok (.invokevirtual 55, 3) := by decide +kernel
theorem dX4_amend_131 : decode cX4_amend 131 = .ok (.aload 4, 2) := by decide +kernel
theorem dX4_amend_133 : decode cX4_amend 133 = .ok (.getfield 207, 3) := by decide +kernel
theorem dX4_amend_136 : decode cX4_amend 136 = .ok (.ireturn, 1) := by decide +kernel
theorem dX4_terms_0 : decode cX4_terms 0 = .ok (.aload_n 0, 1) := by decide +kernel
theorem dX4_terms_1 : decode cX4_terms 1 = .ok (.getfield 21, 3) := by decide +kernel
theorem dX4_terms_4 : decode cX4_terms 4 = .ok (.invokevirtual 60, 3) := by decide +kernel
theorem dX4_terms_7 : decode cX4_terms 7 = .ok (.ireturn, 1) := by decide +kernel
theorem dX4_level_0 : decode cX4_level 0 = .ok (.aload_n 0, 1) := by decide +kernel
theorem dX4_level_1 : decode cX4_level 1 = .ok (.iload_n 1, 1) := by decide +kernel
theorem dX4_level_2 : decode cX4_level 2 = .ok (.invokevirtual 94, 3) := by decide +kernel
theorem dX4_level_5 : decode cX4_level 5 = .ok (.ifCond .ne 13, 3) := by decide +kernel
theorem dX4_level_8 : decode cX4_level 8 = .ok (.new 37, 3) := by decide +kernel
theorem dX4_level_11 : decode cX4_level 11 = .ok (.dup, 1) := by decide +kernel
theorem dX4_level_12 : decode cX4_level 12 = .ok (.ldc 97, 2) := by decide +kernel
theorem dX4_level_14 : decode cX4_level 14 = .ok (.invokespecial 41, 3) := by decide +kernel
theorem dX4_level_17 : decode cX4_level 17 = .ok (.athrow, 1) := by decide +kernel
theorem dX4_level_18 : decode cX4_level 18 = .ok (.aload_n 0, 1) := by decide +kernel
theorem dX4_level_19 : decode cX4_level 19 = .ok (.getfield 21, 3) := by decide +kernel
theorem dX4_level_22 : decode cX4_level 22 = .ok (.iload_n 1, 1) := by decide +kernel
theorem dX4_level_23 : decode cX4_level 23 = .ok (.invokevirtual 99, 3) := by decide +kernel
theorem dX4_level_26 : decode cX4_level 26 = .ok (.checkcast 103, 3) := by decide +kernel
theorem dX4_level_29 : decode cX4_level 29 = .ok (.getfield 105, 3) := by decide +kernel
theorem dX4_level_32 : decode cX4_level 32 = .ok (.ireturn, 1) := by decide +kernel
theorem dX4_value_0 : decode cX4_value 0 = .ok (.aload_n 0, 1) := by decide +kernel
theorem dX4_value_1 : decode cX4_value 1 = .ok (.iload_n 1, 1) := by decide +kernel
theorem dX4_value_2 : decode cX4_value 2 = .ok (.invokevirtual 94, 3) := by decide +kernel
theorem dX4_value_5 : decode cX4_value 5 = .ok (.ifCond .eq 10, 3) := by decide +kernel
theorem dX4_value_8 : decode cX4_value 8 = .ok (.iload_n 2, 1) := by decide +kernel
theorem dX4_value_9 : decode cX4_value 9 = .ok (.invokestatic 34, 3) := by decide +kernel
theorem dX4_value_12 : decode cX4_value 12 = .ok (.ifCond .ne 13, 3) := by decide +kernel
theorem dX4_value_15 : decode cX4_value 15 = .ok (.new 37, 3) := by decide +kernel
theorem dX4_value_18 : decode cX4_value 18 = .ok (.dup, 1) := by decide +kernel
theorem dX4_value_19 : decode cX4_value 19 = .ok (.ldc 195, 2) := by decide +kernel
theorem dX4_value_21 : decode cX4_value 21 = .ok (.invokespecial 41, 3) := by decide +kernel
theorem dX4_value_24 : decode cX4_value 24 = .ok (.athrow, 1) := by decide +kernel
theorem dX4_value_25 : decode cX4_value 25 = .ok (.aload_n 0, 1) := by decide +kernel
theorem dX4_value_26 : decode cX4_value 26 = .ok (.getfield 21, 3) := by decide +kernel
theorem dX4_value_29 : decode cX4_value 29 = .ok (.iload_n 1, 1) := by decide +kernel
theorem dX4_value_30 : decode cX4_value 30 = .ok (.invokevirtual 99, 3) := by decide +kernel
theorem dX4_value_33 : decode cX4_value 33 = .ok (.checkcast 103, 3) := by decide +kernel
theorem dX4_value_36 : decode cX4_value 36 = .ok (.getfield 113, 3) := by decide +kernel
theorem dX4_value_39 : decode cX4_value 39 = .ok (.iload_n 2, 1) := by decide +kernel
theorem dX4_value_40 : decode cX4_value 40 = .ok (.laload, 1) := by decide +kernel
theorem dX4_value_41 : decode cX4_value 41 = .ok (.lreturn, 1) := by decide +kernel
theorem dX4_textLength_0 : decode cX4_textLength 0 = .ok (.aload_n 0, 1) := by decide +kernel
theorem dX4_textLength_1 : decode cX4_textLength 1 = .ok (.iload_n 1, 1) := by decide +kernel
theorem dX4_textLength_2 : decode cX4_textLength 2 = .ok (.invokevirtual 94, 3) := by decide +kernel
theorem dX4_textLength_5 : decode cX4_textLength 5 = .ok (.ifCond .eq 10, 3) := by decide +kernel
theorem dX4_textLength_8 : decode cX4_textLength 8 = .ok (.iload_n 2, 1) := by decide +kernel
theorem dX4_textLength_9 : decode cX4_textLength 9 = .ok (.invokestatic 34, 3) := by decide +kernel
theorem dX4_textLength_12 : decode cX4_textLength 12 = .ok (.ifCond .ne 13, 3) := by decide +kernel
theorem dX4_textLength_15 : decode cX4_textLength 15 = .ok (.new 37, 3) := by decide +kernel
theorem dX4_textLength_18 : decode cX4_textLength 18 = .ok (.dup, 1) := by decide +kernel
theorem dX4_textLength_19 : decode cX4_textLength 19 = .ok (.ldc 195, 2) := by decide +kernel
theorem dX4_textLength_21 : decode cX4_textLength 21 = .ok (.invokespecial 41, 3) := by decide +kernel
theorem dX4_textLength_24 : decode cX4_textLength 24 = .ok (.athrow, 1) := by decide +kernel
theorem dX4_textLength_25 : decode cX4_textLength 25 = .ok (.aload_n 0, 1) := by decide +kernel
theorem dX4_textLength_26 : decode cX4_textLength 26 = .ok (.getfield 21, 3) := by decide +kernel
theorem dX4_textLength_29 : decode cX4_textLength 29 = .ok (.iload_n 1, 1) := by decide +kernel
theorem dX4_textLength_30 : decode cX4_textLength 30 = .ok (.invokevirtual 99, 3) := by decide +kernel
theorem dX4_textLength_33 : decode cX4_textLength 33 = .ok (.checkcast 103, 3) := by decide +kernel
theorem dX4_textLength_36 : decode cX4_textLength 36 = .ok (.iload_n 2, 1) := by decide +kernel
theorem dX4_textLength_37 : decode cX4_textLength 37 = .ok (.invokestatic 210, 3) := by decide +kernel
theorem dX4_textLength_40 : decode cX4_textLength 40 = .ok (.invokevirtual 214, 3) := by decide +kernel
theorem dX4_textLength_43 : decode cX4_textLength 43 = .ok (.ireturn, 1) := by decide +kernel
theorem dX4_textChar_0 : decode cX4_textChar 0 = .ok (.aload_n 0, 1) := by decide +kernel
theorem dX4_textChar_1 : decode cX4_textChar 1 = .ok (.iload_n 1, 1) := by decide +kernel
theorem dX4_textChar_2 : decode cX4_textChar 2 = .ok (.invokevirtual 94, 3) := by decide +kernel
theorem dX4_textChar_5 : decode cX4_textChar 5 = .ok (.ifCond .eq 10, 3) := by decide +kernel
theorem dX4_textChar_8 : decode cX4_textChar 8 = .ok (.iload_n 2, 1) := by decide +kernel
theorem dX4_textChar_9 : decode cX4_textChar 9 = .ok (.invokestatic 34, 3) := by decide +kernel
theorem dX4_textChar_12 : decode cX4_textChar 12 = .ok (.ifCond .ne 13, 3) := by decide +kernel
theorem dX4_textChar_15 : decode cX4_textChar 15 = .ok (.new 37, 3) := by decide +kernel
theorem dX4_textChar_18 : decode cX4_textChar 18 = .ok (.dup, 1) := by decide +kernel
theorem dX4_textChar_19 : decode cX4_textChar 19 = .ok (.ldc 195, 2) := by decide +kernel
theorem dX4_textChar_21 : decode cX4_textChar 21 = .ok (.invokespecial 41, 3) := by decide +kernel
theorem dX4_textChar_24 : decode cX4_textChar 24 = .ok (.athrow, 1) := by decide +kernel
theorem dX4_textChar_25 : decode cX4_textChar 25 = .ok (.aload_n 0, 1) := by decide +kernel
theorem dX4_textChar_26 : decode cX4_textChar 26 = .ok (.getfield 21, 3) := by decide +kernel
theorem dX4_textChar_29 : decode cX4_textChar 29 = .ok (.iload_n 1, 1) := by decide +kernel
theorem dX4_textChar_30 : decode cX4_textChar 30 = .ok (.invokevirtual 99, 3) := by decide +kernel
theorem dX4_textChar_33 : decode cX4_textChar 33 = .ok (.checkcast 103, 3) := by decide +kernel
theorem dX4_textChar_36 : decode cX4_textChar 36 = .ok (.iload_n 2, 1) := by decide +kernel
theorem dX4_textChar_37 : decode cX4_textChar 37 = .ok (.invokestatic 210, 3) := by decide +kernel
theorem dX4_textChar_40 : decode cX4_textChar 40 = .ok (.astore 4, 2) := by decide +kernel
theorem dX4_textChar_42 : decode cX4_textChar 42 = .ok (.iload_n 3, 1) := by decide +kernel
theorem dX4_textChar_43 : decode cX4_textChar 43 = .ok (.ifCond .lt 12, 3) := by decide +kernel
theorem dX4_textChar_46 : decode cX4_textChar 46 = .ok (.iload_n 3, 1) := by decide +kernel
theorem dX4_textChar_47 : decode cX4_textChar 47 = .ok (.aload 4, 2) := by decide +kernel
theorem dX4_textChar_49 : decode cX4_textChar 49 = .ok (.invokevirtual 214, 3) := by decide +kernel
theorem dX4_textChar_52 : decode cX4_textChar 52 = .ok (.if_icmp .lt 13, 3) := by decide +kernel
theorem dX4_textChar_55 : decode cX4_textChar 55 = .ok (.new 37, 3) := by decide +kernel
theorem dX4_textChar_58 : decode cX4_textChar 58 = .ok (.dup, 1) := by decide +kernel
theorem dX4_textChar_59 : decode cX4_textChar 59 = .ok (.ldc 219, 2) := by decide +kernel
theorem dX4_textChar_61 : decode cX4_textChar 61 = .ok (.invokespecial 41, 3) := by decide +kernel
theorem dX4_textChar_64 : decode cX4_textChar 64 = .ok (.athrow, 1) := by decide +kernel
theorem dX4_textChar_65 : decode cX4_textChar 65 = .ok (.aload 4, 2) := by decide +kernel
theorem dX4_textChar_67 : decode cX4_textChar 67 = .ok (.iload_n 3, 1) := by decide +kernel
theorem dX4_textChar_68 : decode cX4_textChar 68 = .ok (.invokevirtual 221, 3) := by decide +kernel
theorem dX4_textChar_71 : decode cX4_textChar 71 = .ok (.ireturn, 1) := by decide +kernel
theorem dX4_canAmend_0 : decode cX4_canAmend 0 = .ok (.aload_n 2, 1) := by decide +kernel
theorem dX4_canAmend_1 : decode cX4_canAmend 1 = .ok (.getfield 147, 3) := by decide +kernel
theorem dX4_canAmend_4 : decode cX4_canAmend 4 = .ok (.aload_n 0, 1) := by decide +kernel
theorem dX4_canAmend_5 : decode cX4_canAmend 5 = .ok (.getfield 105, 3) := by decide +kernel
theorem dX4_canAmend_8 : decode cX4_canAmend 8 = .ok (.if_icmp .gt 15, 3) := by decide +kernel
theorem dX4_canAmend_11 : decode cX4_canAmend 11 = .ok (.aload_n 2, 1) := by decide +kernel
theorem dX4_canAmend_12 : decode cX4_canAmend 12 = .ok (.getfield 225, 3) := by decide +kernel
theorem dX4_canAmend_15 : decode cX4_canAmend 15 = .ok (.iload_n 1, 1) := by decide +kernel
theorem dX4_canAmend_16 : decode cX4_canAmend 16 = .ok (.if_icmp .ge 7, 3) := by decide +kernel
theorem dX4_canAmend_19 : decode cX4_canAmend 19 = .ok (.iconst 1, 1) := by decide +kernel
theorem dX4_canAmend_20 : decode cX4_canAmend 20 = .ok (.goto 4, 3) := by decide +kernel
theorem dX4_canAmend_23 : decode cX4_canAmend 23 = .ok (.iconst 0, 1) := by decide +kernel
theorem dX4_canAmend_24 : decode cX4_canAmend 24 = .ok (.ireturn, 1) := by decide +kernel
theorem dX4_textIn_0 : decode cX4_textIn 0 = .ok (.iload_n 1, 1) := by decide +kernel
theorem dX4_textIn_1 : decode cX4_textIn 1 = .ok (.istore_n 2, 1) := by decide +kernel
theorem dX4_textIn_2 : decode cX4_textIn 2 = .ok (.iload_n 2, 1) := by decide +kernel
theorem dX4_textIn_3 : decode cX4_textIn 3 = .ok (.ifCond .lt 25, 3) := by decide +kernel
theorem dX4_textIn_6 : decode cX4_textIn 6 = .ok (.aload_n 0, 1) := by decide +kernel
theorem dX4_textIn_7 : decode cX4_textIn 7 = .ok (.getfield 203, 3) := by decide +kernel
theorem dX4_textIn_10 : decode cX4_textIn 10 = .ok (.iload_n 2, 1) := by decide +kernel
theorem dX4_textIn_11 : decode cX4_textIn 11 = .ok (.aaload, 1) := by decide +kernel
theorem dX4_textIn_12 : decode cX4_textIn 12 = .ok (.astore_n 3, 1) := by decide +kernel
theorem dX4_textIn_13 : decode cX4_textIn 13 = .ok (.aload_n 3, 1) := by decide +kernel
theorem dX4_textIn_14 : decode cX4_textIn 14 = .ok (.ifnull 8, 3) := by decide +kernel
theorem dX4_textIn_17 : decode cX4_textIn 17 = .ok (.aload_n 3, 1) := by decide +kernel
theorem dX4_textIn_18 : decode cX4_textIn 18 = .ok (.getfield 128, 3) := by decide +kernel
theorem dX4_textIn_21 : decode cX4_textIn 21 = .ok (.areturn, 1) := by decide +kernel
theorem dX4_textIn_22 : decode cX4_textIn 22 = .ok (.iinc 2 (-1), 3) := by decide +kernel
theorem dX4_textIn_25 : decode cX4_textIn 25 = .ok (.goto (-23), 3) := by decide +kernel
theorem dX4_textIn_28 : decode cX4_textIn 28 = .ok (.ldc 92, 2) := by decide +kernel
theorem dX4_textIn_30 : decode cX4_textIn 30 = .ok (.areturn, 1) := by decide +kernel
theorem dX4_settleTerms_0 : decode cX4_settleTerms 0 = .ok (.iconst 0, 1) := by decide +kernel
theorem dX4_settleTerms_1 : decode cX4_settleTerms 1 = .ok (.istore_n 1, 1) := by decide +kernel
theorem dX4_settleTerms_2 : decode cX4_settleTerms 2 = .ok (.iload_n 1, 1) := by decide +kernel
theorem dX4_settleTerms_3 : decode cX4_settleTerms 3 = .ok (.aload_n 0, 1) := by decide +kernel
theorem dX4_settleTerms_4 : decode cX4_settleTerms 4 = .ok (.getfield 21, 3) := by decide +kernel
theorem dX4_settleTerms_7 : decode cX4_settleTerms 7 = .ok (.invokevirtual 60, 3) := by decide +kernel
theorem dX4_settleTerms_10 : decode cX4_settleTerms 10 = .ok (.if_icmp .ge 23, 3) := by decide +kernel
theorem dX4_settleTerms_13 : decode cX4_settleTerms 13 = .ok (.aload_n 0, 1) := by decide +kernel
theorem dX4_settleTerms_14 : decode cX4_settleTerms 14 = .ok (.getfield 21, 3) := by decide +kernel
theorem dX4_settleTerms_17 : decode cX4_settleTerms 17 = .ok (.iload_n 1, 1) := by decide +kernel
theorem dX4_settleTerms_18 : decode cX4_settleTerms 18 = .ok (.invokevirtual 99, 3) := by decide +kernel
theorem dX4_settleTerms_21 : decode cX4_settleTerms 21 = .ok (.checkcast 103, 3) := by decide +kernel
theorem dX4_settleTerms_24 : decode cX4_settleTerms 24 = .ok (.invokestatic 228, 3) := by decide +kernel
theorem dX4_settleTerms_27 : decode cX4_settleTerms 27 = .ok (.iinc 1 1, 3) := by decide +kernel
theorem dX4_settleTerms_30 : decode cX4_settleTerms 30 = .ok (.goto (-28), 3) := by decide +kernel
theorem dX4_settleTerms_33 : decode cX4_settleTerms 33 = .ok (.return_, 1) := by decide +kernel
theorem dX4_settleTerm_0 : decode cX4_settleTerm 0 = .ok (.aconst_null, 1) := by decide +kernel
theorem dX4_settleTerm_1 : decode cX4_settleTerm 1 = .ok (.astore_n 1, 1) := by decide +kernel
theorem dX4_settleTerm_2 : decode cX4_settleTerm 2 = .ok (.iconst 0, 1) := by decide +kernel
theorem dX4_settleTerm_3 : decode cX4_settleTerm 3 = .ok (.istore_n 2, 1) := by decide +kernel
theorem dX4_settleTerm_4 : decode cX4_settleTerm 4 = .ok (.iload_n 2, 1) := by decide +kernel
theorem dX4_settleTerm_5 : decode cX4_settleTerm 5 = .ok (.bipush 20, 2) := by decide +kernel
theorem dX4_settleTerm_7 : decode cX4_settleTerm 7 = .ok (.if_icmp .ge 44, 3) := by decide +kernel
theorem dX4_settleTerm_10 : decode cX4_settleTerm 10 = .ok (.aload_n 0, 1) := by decide +kernel
theorem dX4_settleTerm_11 : decode cX4_settleTerm 11 = .ok (.getfield 203, 3) := by decide +kernel
theorem dX4_settleTerm_14 : decode cX4_settleTerm 14 = .ok (.iload_n 2, 1) := by decide +kernel
theorem dX4_settleTerm_15 : decode cX4_settleTerm 15 = .ok (.aaload, 1) := by decide +kernel
theorem dX4_settleTerm_16 : decode cX4_settleTerm 16 = .ok (.astore_n 3, 1) := by decide +kernel
theorem dX4_settleTerm_17 : decode cX4_settleTerm 17 = .ok (.aload_n 3, 1) := by decide +kernel
theorem dX4_settleTerm_18 : decode cX4_settleTerm 18 = .ok (.ifnull 11, 3) := by decide +kernel
theorem dX4_settleTerm_21 : decode cX4_settleTerm 21 = .ok (.aload_n 3, 1) := by decide +kernel
theorem dX4_settleTerm_22 : decode cX4_settleTerm 22 = .ok (.astore_n 1, 1) := by decide +kernel
theorem dX4_settleTerm_23 : decode cX4_settleTerm 23 = .ok (.aload_n 1, 1) := by decide +kernel
theorem dX4_settleTerm_24 : decode cX4_settleTerm 24 = .ok (.bipush 6, 2) := by decide +kernel
theorem dX4_settleTerm_26 : decode cX4_settleTerm 26 = .ok (.invokestatic 232, 3) := by decide +kernel
theorem dX4_settleTerm_29 : decode cX4_settleTerm 29 = .ok (.aload_n 1, 1) := by decide +kernel
theorem dX4_settleTerm_30 : decode cX4_settleTerm 30 = .ok (.ifnull 15, 3) := by decide +kernel
theorem dX4_settleTerm_33 : decode cX4_settleTerm 33 = .ok (.aload_n 0, 1) := by decide +kernel
theorem dX4_settleTerm_34 : decode cX4_settleTerm 34 = .ok (.getfield 113, 3) := by decide +kernel
theorem dX4_settleTerm_37 : decode cX4_settleTerm 37 = .ok (.iload_n 2, 1) := by decide +kernel
theorem dX4_settleTerm_38 : decode cX4_settleTerm 38 = .ok (.aload_n 1, 1) := by decide +kernel
theorem dX4_settleTerm_39 : decode cX4_settleTerm 39 = .ok (.getfield 236, 3) := by decide +kernel
theorem dX4_settleTerm_42 : decode cX4_settleTerm 42 = .ok (.iload_n 2, 1) := by decide +kernel
theorem dX4_settleTerm_43 : decode cX4_settleTerm 43 = .ok (.laload, 1) := by decide +kernel
theorem dX4_settleTerm_44 : decode cX4_settleTerm 44 = .ok (.lastore, 1) := by decide +kernel
theorem dX4_settleTerm_45 : decode cX4_settleTerm 45 = .ok (.iinc 2 1, 3) := by decide +kernel
theorem dX4_settleTerm_48 : decode cX4_settleTerm 48 = .ok (.goto (-44), 3) := by decide +kernel
theorem dX4_settleTerm_51 : decode cX4_settleTerm 51 = .ok (.return_, 1) := by decide +kernel
theorem dX4_settleFormula_0 : decode cX4_settleFormula 0 = .ok (.aload_n 0, 1) := by decide +kernel
theorem dX4_settleFormula_1 : decode cX4_settleFormula 1 = .ok (.ifnull 15, 3) := by decide +kernel
theorem dX4_settleFormula_4 : decode cX4_settleFormula 4 = .ok (.aload_n 0, 1) := by decide +kernel
theorem dX4_settleFormula_5 : decode cX4_settleFormula 5 = .ok (.getfield 237, 3) := by decide +kernel
theorem dX4_settleFormula_8 : decode cX4_settleFormula 8 = .ok (.iconst 4, 1) := by decide +kernel
theorem dX4_settleFormula_9 : decode cX4_settleFormula 9 = .ok (.if_icmp .eq 7, 3) := by decide +kernel
theorem dX4_settleFormula_12 : decode cX4_settleFormula 12 = .ok (.iload_n 1, 1) := by decide +kernel
theorem dX4_settleFormula_13 : decode cX4_settleFormula 13 = .ok (.ifCond .gt 4, 3) := by decide +kernel
theorem dX4_settleFormula_16 : decode cX4_settleFormula 16 = .ok (.return_, 1) := by decide +kernel
theorem dX4_settleFormula_17 : decode cX4_settleFormula 17 = .ok (.aload_n 0, 1) := by decide +kernel
theorem dX4_settleFormula_18 : decode cX4_settleFormula 18 = .ok (.getfield 240, 3) := by decide +kernel
theorem dX4_settleFormula_21 : decode cX4_settleFormula 21 = .ok (.iload_n 1, 1) := by decide +kernel
theorem dX4_settleFormula_22 : decode cX4_settleFormula 22 = .ok (.iconst 1, 1) := by decide +kernel
theorem dX4_settleFormula_23 : decode cX4_settleFormula 23 = .ok (.isub, 1) := by decide +kernel
theorem dX4_settleFormula_24 : decode cX4_settleFormula 24 = .ok (.invokestatic 232, 3) := by decide +kernel
theorem dX4_settleFormula_27 : decode cX4_settleFormula 27 = .ok (.aload_n 0, 1) := by decide +kernel
theorem dX4_settleFormula_28 : decode cX4_settleFormula 28 = .ok (.getfield 244, 3) := by decide +kernel
theorem dX4_settleFormula_31 : decode cX4_settleFormula 31 = .ok (.iload_n 1, 1) := by decide +kernel
theorem dX4_settleFormula_32 : decode cX4_settleFormula 32 = .ok (.iconst 1, 1) := by decide +kernel
theorem dX4_settleFormula_33 : decode cX4_settleFormula 33 = .ok (.isub, 1) := by decide +kernel
theorem dX4_settleFormula_34 : decode cX4_settleFormula 34 = .ok (.invokestatic 232, 3) := by decide +kernel
theorem dX4_settleFormula_37 : decode cX4_settleFormula 37 = .ok (.iconst 0, 1) := by decide +kernel
theorem dX4_settleFormula_38 : decode cX4_settleFormula 38 = .ok (.istore_n 2, 1) := by decide +kernel
theorem dX4_settleFormula_39 : decode cX4_settleFormula 39 = .ok (.iload_n 2, 1) := by decide +kernel
theorem dX4_settleFormula_40 : decode cX4_settleFormula 40 = .ok (.bipush 20, 2) := by decide +kernel
theorem dX4_settleFormula_42 : decode cX4_settleFormula 42 = .ok (.if_icmp .ge 20, 3) := by decide +kernel
theorem dX4_settleFormula_45 : decode cX4_settleFormula 45 = .ok (.aload_n 0, 1) := by decide +kernel
theorem dX4_settleFormula_46 : decode cX4_settleFormula 46 = .ok (.getfield 236, 3) := by decide +kernel
theorem dX4_settleFormula_49 : decode cX4_settleFormula 49 = .ok (.iload_n 2, 1) := by decide +kernel
theorem dX4_settleFormula_50 : decode cX4_settleFormula 50 = .ok (.aload_n 0, 1) := by decide +kernel
theorem dX4_settleFormula_51 : decode cX4_settleFormula 51 = .ok (.iload_n 2, 1) := by decide +kernel
theorem dX4_settleFormula_52 : decode cX4_settleFormula 52 = .ok (.invokestatic 247, 3) := by decide +kernel
theorem dX4_settleFormula_55 : decode cX4_settleFormula 55 = .ok (.lastore, 1) := by decide +kernel
theorem dX4_settleFormula_56 : decode cX4_settleFormula 56 = .ok (.iinc 2 1, 3) := by decide +kernel
theorem dX4_settleFormula_59 : decode cX4_settleFormula 59 = .ok (.goto (-20), 3) := by decide +kernel
theorem dX4_settleFormula_62 : decode cX4_settleFormula 62 = .ok (.return_, 1) := by decide +kernel
theorem dX4_valueMade_0 : decode cX4_valueMade 0 = .ok (.aload_n 0, 1) := by decide +kernel
theorem dX4_valueMade_1 : decode cX4_valueMade 1 = .ok (.getfield 240, 3) := by decide +kernel
theorem dX4_valueMade_4 : decode cX4_valueMade 4 = .ok (.astore_n 2, 1) := by decide +kernel
theorem dX4_valueMade_5 : decode cX4_valueMade 5 = .ok (.aload_n 2, 1) := by decide +kernel
theorem dX4_valueMade_6 : decode cX4_valueMade 6 = .ok (.ifnonnull 5, 3) := by decide +kernel
theorem dX4_valueMade_9 : decode cX4_valueMade 9 = .ok (.lconst 0, 1) := by decide +kernel
theorem dX4_valueMade_10 : decode cX4_valueMade 10 = .ok (.lreturn, 1) := by decide +kernel
theorem dX4_valueMade_11 : decode cX4_valueMade 11 = .ok (.aload_n 0, 1) := by decide +kernel
theorem dX4_valueMade_12 : decode cX4_valueMade 12 = .ok (.getfield 237, 3) := by decide +kernel
theorem dX4_valueMade_15 : decode cX4_valueMade 15 = .ok (.iconst 5, 1) := by decide +kernel
theorem dX4_valueMade_16 : decode cX4_valueMade 16 = .ok (.if_icmp .ne 17, 3) := by decide +kernel
theorem dX4_valueMade_19 : decode cX4_valueMade 19 = .ok (.aload_n 2, 1) := by decide +kernel
theorem dX4_valueMade_20 : decode cX4_valueMade 20 = .ok (.getfield 236, 3) := by decide +kernel
theorem dX4_valueMade_23 : decode cX4_valueMade 23 = .ok (.iload_n 1, 1) := by decide +kernel
theorem dX4_valueMade_24 : decode cX4_valueMade 24 = .ok (.laload, 1) := by decide +kernel
theorem dX4_valueMade_25 : decode cX4_valueMade 25 = .ok (.aload_n 0, 1) := by decide +kernel
theorem dX4_valueMade_26 : decode cX4_valueMade 26 = .ok (.getfield 251, 3) := by decide +kernel
theorem dX4_valueMade_29 : decode cX4_valueMade 29 = .ok (.invokestatic 254, 3) := by decide +kernel
theorem dX4_valueMade_32 : decode cX4_valueMade 32 = .ok (.lreturn, 1) := by decide +kernel
theorem dX4_valueMade_33 : decode cX4_valueMade 33 = .ok (.aload_n 0, 1) := by decide +kernel
theorem dX4_valueMade_34 : decode cX4_valueMade 34 = .ok (.getfield 237, 3) := by decide +kernel
theorem dX4_valueMade_37 : decode cX4_valueMade 37 = .ok (.bipush 6, 2) := by decide +kernel
theorem dX4_valueMade_39 : decode cX4_valueMade 39 = .ok (.if_icmp .ne 12, 3) := by decide +kernel
theorem dX4_valueMade_42 : decode cX4_valueMade 42 = .ok (.aload_n 2, 1) := by decide +kernel
theorem dX4_valueMade_43 : decode cX4_valueMade 43 = .ok (.getfield 236, 3) := by decide +kernel
theorem dX4_valueMade_46 : decode cX4_valueMade 46 = .ok (.iload_n 1, 1) := by decide +kernel
theorem dX4_valueMade_47 : decode cX4_valueMade 47 = .ok (.invokestatic 258, 3) := by decide +kernel
theorem dX4_valueMade_50 : decode cX4_valueMade 50 = .ok (.lreturn, 1) := by decide +kernel
theorem dX4_valueMade_51 : decode cX4_valueMade 51 = .ok (.aload_n 0, 1) := by decide +kernel
theorem dX4_valueMade_52 : decode cX4_valueMade 52 = .ok (.getfield 244, 3) := by decide +kernel
theorem dX4_valueMade_55 : decode cX4_valueMade 55 = .ok (.astore_n 3, 1) := by decide +kernel
theorem dX4_valueMade_56 : decode cX4_valueMade 56 = .ok (.aload_n 3, 1) := by decide +kernel
theorem dX4_valueMade_57 : decode cX4_valueMade 57 = .ok (.ifnonnull 5, 3) := by decide +kernel
theorem dX4_valueMade_60 : decode cX4_valueMade 60 = .ok (.lconst 0, 1) := by decide +kernel
theorem dX4_valueMade_61 : decode cX4_valueMade 61 = .ok (.lreturn, 1) := by decide +kernel
theorem dX4_valueMade_62 : decode cX4_valueMade 62 = .ok (.aload_n 0, 1) := by decide +kernel
theorem dX4_valueMade_63 : decode cX4_valueMade 63 = .ok (.getfield 237, 3) := by decide +kernel
theorem dX4_valueMade_66 : decode cX4_valueMade 66 = .ok (.aload_n 2, 1) := by decide +kernel
theorem dX4_valueMade_67 : decode cX4_valueMade 67 = .ok (.getfield 236, 3) := by decide +kernel
theorem dX4_valueMade_70 : decode cX4_valueMade 70 = .ok (.iload_n 1, 1) := by decide +kernel
theorem dX4_valueMade_71 : decode cX4_valueMade 71 = .ok (.laload, 1) := by decide +kernel
theorem dX4_valueMade_72 : decode cX4_valueMade 72 = .ok (.aload_n 3, 1) := by decide +kernel
theorem dX4_valueMade_73 : decode cX4_valueMade 73 = .ok (.getfield 236, 3) := by decide +kernel
theorem dX4_valueMade_76 : decode cX4_valueMade 76 = .ok (.iload_n 1, 1) := by decide +kernel
theorem dX4_valueMade_77 : decode cX4_valueMade 77 = .ok (.laload, 1) := by decide +kernel
theorem dX4_valueMade_78 : decode cX4_valueMade 78 = .ok (.invokestatic 262, 3) := by decide +kernel
theorem dX4_valueMade_81 : decode cX4_valueMade 81 = .ok (.lreturn, 1) := by decide +kernel
theorem dX4_joinOf_0 : decode cX4_joinOf 0 = .ok (.iload_n 0, 1) := by decide +kernel
theorem dX4_joinOf_1 : decode cX4_joinOf 1 = .ok (.tableswitch 41 0 2 #[27, 31, 35], 27) := by decide +kernel
theorem dX4_joinOf_28 : decode cX4_joinOf 28 = .ok (.lload_n 1, 1) := by decide +kernel
theorem dX4_joinOf_29 : decode cX4_joinOf 29 = .ok (.lload_n 3, 1) := by decide +kernel
theorem dX4_joinOf_30 : decode cX4_joinOf 30 = .ok (.ladd, 1) := by decide +kernel
theorem dX4_joinOf_31 : decode cX4_joinOf 31 = .ok (.lreturn, 1) := by decide +kernel
theorem dX4_joinOf_32 : decode cX4_joinOf 32 = .ok (.lload_n 1, 1) := by decide +kernel
theorem dX4_joinOf_33 : decode cX4_joinOf 33 = .ok (.lload_n 3, 1) := by decide +kernel
theorem dX4_joinOf_34 : decode cX4_joinOf 34 = .ok (.lsub, 1) := by decide +kernel
theorem dX4_joinOf_35 : decode cX4_joinOf 35 = .ok (.lreturn, 1) := by decide +kernel
theorem dX4_joinOf_36 : decode cX4_joinOf 36 = .ok (.lload_n 1, 1) := by decide +kernel
theorem dX4_joinOf_37 : decode cX4_joinOf 37 = .ok (.lload_n 3, 1) := by decide +kernel
theorem dX4_joinOf_38 : decode cX4_joinOf 38 = .ok (.invokestatic 266, 3) := by decide +kernel
theorem dX4_joinOf_41 : decode cX4_joinOf 41 = .ok (.lreturn, 1) := by decide +kernel
theorem dX4_joinOf_42 : decode cX4_joinOf 42 = .ok (.lload_n 1, 1) := by decide +kernel
theorem dX4_joinOf_43 : decode cX4_joinOf 43 = .ok (.lload_n 3, 1) := by decide +kernel
theorem dX4_joinOf_44 : decode cX4_joinOf 44 = .ok (.invokestatic 271, 3) := by decide +kernel
theorem dX4_joinOf_47 : decode cX4_joinOf 47 = .ok (.lreturn, 1) := by decide +kernel
theorem dX4_shareOf_0 : decode cX4_shareOf 0 = .ok (.lload_n 0, 1) := by decide +kernel
theorem dX4_shareOf_1 : decode cX4_shareOf 1 = .ok (.iload_n 2, 1) := by decide +kernel
theorem dX4_shareOf_2 : decode cX4_shareOf 2 = .ok (.i2l, 1) := by decide +kernel
theorem dX4_shareOf_3 : decode cX4_shareOf 3 = .ok (.lmul, 1) := by decide +kernel
theorem dX4_shareOf_4 : decode cX4_shareOf 4 = .ok (.ldc2_w 273, 3) := by decide +kernel
theorem dX4_shareOf_7 : decode cX4_shareOf 7 = .ok (.invokestatic 275, 3) := by decide +kernel
theorem dX4_shareOf_10 : decode cX4_shareOf 10 = .ok (.lreturn, 1) := by decide +kernel
theorem dX4_yearOf_0 : decode cX4_yearOf 0 = .ok (.lconst 0, 1) := by decide +kernel
theorem dX4_yearOf_1 : decode cX4_yearOf 1 = .ok (.lstore_n 2, 1) := by decide +kernel
theorem dX4_yearOf_2 : decode cX4_yearOf 2 = .ok (.iconst 0, 1) := by decide +kernel
theorem dX4_yearOf_3 : decode cX4_yearOf 3 = .ok (.istore 4, 2) := by decide +kernel
theorem dX4_yearOf_5 : decode cX4_yearOf 5 = .ok (.iload 4, 2) := by decide +kernel
theorem dX4_yearOf_7 : decode cX4_yearOf 7 = .ok (.iconst 4, 1) := by decide +kernel
theorem dX4_yearOf_8 : decode cX4_yearOf 8 = .ok (.if_icmp .ge 24, 3) := by decide +kernel
theorem dX4_yearOf_11 : decode cX4_yearOf 11 = .ok (.iload 4, 2) := by decide +kernel
theorem dX4_yearOf_13 : decode cX4_yearOf 13 = .ok (.iload_n 1, 1) := by decide +kernel
theorem dX4_yearOf_14 : decode cX4_yearOf 14 = .ok (.if_icmp .gt 18, 3) := by decide +kernel
theorem dX4_yearOf_17 : decode cX4_yearOf 17 = .ok (.lload_n 2, 1) := by decide +kernel
theorem dX4_yearOf_18 : decode cX4_yearOf 18 = .ok (.aload_n 0, 1) := by decide +kernel
theorem dX4_yearOf_19 : decode cX4_yearOf 19 = .ok (.iload_n 1, 1) := by decide +kernel
theorem dX4_yearOf_20 : decode cX4_yearOf 20 = .ok (.iload 4, 2) := by decide +kernel
theorem dX4_yearOf_22 : decode cX4_yearOf 22 = .ok (.isub, 1) := by decide +kernel
theorem dX4_yearOf_23 : decode cX4_yearOf 23 = .ok (.laload, 1) := by decide +kernel
theorem dX4_yearOf_24 : decode cX4_yearOf 24 = .ok (.ladd, 1) := by decide +kernel
theorem dX4_yearOf_25 : decode cX4_yearOf 25 = .ok (.lstore_n 2, 1) := by decide +kernel
theorem dX4_yearOf_26 : decode cX4_yearOf 26 = .ok (.iinc 4 1, 3) := by decide +kernel
theorem dX4_yearOf_29 : decode cX4_yearOf 29 = .ok (.goto (-24), 3) := by decide +kernel
theorem dX4_yearOf_32 : decode cX4_yearOf 32 = .ok (.lload_n 2, 1) := by decide +kernel
theorem dX4_yearOf_33 : decode cX4_yearOf 33 = .ok (.lreturn, 1) := by decide +kernel
theorem dX4_test_0 : decode cX4_test 0 = .ok (.aload_n 0, 1) := by decide +kernel
theorem dX4_test_1 : decode cX4_test 1 = .ok (.iload_n 1, 1) := by decide +kernel
theorem dX4_test_2 : decode cX4_test 2 = .ok (.invokevirtual 94, 3) := by decide +kernel
theorem dX4_test_5 : decode cX4_test 5 = .ok (.ifCond .eq 11, 3) := by decide +kernel
theorem dX4_test_8 : decode cX4_test 8 = .ok (.aload_n 0, 1) := by decide +kernel
theorem dX4_test_9 : decode cX4_test 9 = .ok (.iload_n 2, 1) := by decide +kernel
theorem dX4_test_10 : decode cX4_test 10 = .ok (.invokevirtual 94, 3) := by decide +kernel
theorem dX4_test_13 : decode cX4_test 13 = .ok (.ifCond .ne 13, 3) := by decide +kernel
theorem dX4_test_16 : decode cX4_test 16 = .ok (.new 37, 3) := by decide +kernel
theorem dX4_test_19 : decode cX4_test 19 = .ok (.dup, 1) := by decide +kernel
theorem dX4_test_20 : decode cX4_test 20 = .ok (.ldc 97, 2) := by decide +kernel
theorem dX4_test_22 : decode cX4_test 22 = .ok (.invokespecial 41, 3) := by decide +kernel
theorem dX4_test_25 : decode cX4_test 25 = .ok (.athrow, 1) := by decide +kernel
theorem dX4_test_26 : decode cX4_test 26 = .ok (.aload_n 0, 1) := by decide +kernel
theorem dX4_test_27 : decode cX4_test 27 = .ok (.getfield 24, 3) := by decide +kernel
theorem dX4_test_30 : decode cX4_test 30 = .ok (.invokevirtual 60, 3) := by decide +kernel
theorem dX4_test_33 : decode cX4_test 33 = .ok (.bipush 6, 2) := by decide +kernel
theorem dX4_test_35 : decode cX4_test 35 = .ok (.if_icmp .lt 14, 3) := by decide +kernel
theorem dX4_test_38 : decode cX4_test 38 = .ok (.new 64, 3) := by decide +kernel
theorem dX4_test_41 : decode cX4_test 41 = .ok (.dup, 1) := by decide +kernel
theorem dX4_test_42 : decode cX4_test 42 = .ok (.ldc_w 278, 3) := by decide +kernel
theorem dX4_test_45 : decode cX4_test 45 = .ok (.invokespecial 68, 3) := by decide +kernel
theorem dX4_test_48 : decode cX4_test 48 = .ok (.athrow, 1) := by decide +kernel
theorem dX4_test_49 : decode cX4_test 49 = .ok (.aload_n 0, 1) := by decide +kernel
theorem dX4_test_50 : decode cX4_test 50 = .ok (.getfield 24, 3) := by decide +kernel
theorem dX4_test_53 : decode cX4_test 53 = .ok (.new 280, 3) := by decide +kernel
theorem dX4_test_56 : decode cX4_test 56 = .ok (.dup, 1) := by decide +kernel
theorem dX4_test_57 : decode cX4_test 57 = .ok (.aload_n 0, 1) := by decide +kernel
theorem dX4_test_58 : decode cX4_test 58 = .ok (.getfield 21, 3) := by decide +kernel
theorem dX4_test_61 : decode cX4_test 61 = .ok (.iload_n 1, 1) := by decide +kernel
theorem dX4_test_62 : decode cX4_test 62 = .ok (.invokevirtual 99, 3) := by decide +kernel
theorem dX4_test_65 : decode cX4_test 65 = .ok (.checkcast 103, 3) := by decide +kernel
theorem dX4_test_68 : decode cX4_test 68 = .ok (.aload_n 0, 1) := by decide +kernel
theorem dX4_test_69 : decode cX4_test 69 = .ok (.getfield 21, 3) := by decide +kernel
theorem dX4_test_72 : decode cX4_test 72 = .ok (.iload_n 2, 1) := by decide +kernel
theorem dX4_test_73 : decode cX4_test 73 = .ok (.invokevirtual 99, 3) := by decide +kernel
theorem dX4_test_76 : decode cX4_test 76 = .ok (.checkcast 103, 3) := by decide +kernel
theorem dX4_test_79 : decode cX4_test 79 = .ok (.invokespecial 282, 3) := by decide +kernel
theorem dX4_test_82 : decode cX4_test 82 = .ok (.invokevirtual 155, 3) := by decide +kernel
theorem dX4_test_85 : decode cX4_test 85 = .ok (.pop, 1) := by decide +kernel
theorem dX4_test_86 : decode cX4_test 86 = .ok (.aload_n 0, 1) := by decide +kernel
theorem dX4_test_87 : decode cX4_test 87 = .ok (.getfield 24, 3) := by decide +kernel
theorem dX4_test_90 : decode cX4_test 90 = .ok (.invokevirtual 60, 3) := by decide +kernel
theorem dX4_test_93 : decode cX4_test 93 = .ok (.iconst 1, 1) := by decide +kernel
theorem dX4_test_94 : decode cX4_test 94 = .ok (.isub, 1) := by decide +kernel
theorem dX4_test_95 : decode cX4_test 95 = .ok (.ireturn, 1) := by decide +kernel
theorem dX4_limit_0 : decode cX4_limit 0 = .ok (.aload_n 0, 1) := by decide +kernel
theorem dX4_limit_1 : decode cX4_limit 1 = .ok (.iload_n 1, 1) := by decide +kernel
theorem dX4_limit_2 : decode cX4_limit 2 = .ok (.invokevirtual 285, 3) := by decide +kernel
theorem dX4_limit_5 : decode cX4_limit 5 = .ok (.ifCond .eq 10, 3) := by decide +kernel
theorem dX4_limit_8 : decode cX4_limit 8 = .ok (.iload_n 2, 1) := by decide +kernel
theorem dX4_limit_9 : decode cX4_limit 9 = .ok (.invokestatic 34, 3) := by decide +kernel
theorem dX4_limit_12 : decode cX4_limit 12 = .ok (.ifCond .ne 14, 3) := by decide +kernel
theorem dX4_limit_15 : decode cX4_limit 15 = .ok (.new 37, 3) := by decide +kernel
theorem dX4_limit_18 : decode cX4_limit 18 = .ok (.dup, 1) := by decide +kernel
theorem dX4_limit_19 : decode cX4_limit 19 = .ok (.ldc_w 288, 3) := by decide +kernel
theorem dX4_limit_22 : decode cX4_limit 22 = .ok (.invokespecial 41, 3) := by decide +kernel
theorem dX4_limit_25 : decode cX4_limit 25 = .ok (.athrow, 1) := by decide +kernel
theorem dX4_limit_26 : decode cX4_limit 26 = .ok (.iload_n 3, 1) := by decide +kernel
theorem dX4_limit_27 : decode cX4_limit 27 = .ok (.iconst 0, 1) := by decide +kernel
theorem dX4_limit_28 : decode cX4_limit 28 = .ok (.sipush 10000, 3) := by decide +kernel
theorem dX4_limit_31 : decode cX4_limit 31 = .ok (.invokestatic 46, 3) := by decide +kernel
theorem dX4_limit_34 : decode cX4_limit 34 = .ok (.ifCond .ne 14, 3) := by decide +kernel
theorem dX4_limit_37 : decode cX4_limit 37 = .ok (.new 50, 3) := by decide +kernel
theorem dX4_limit_40 : decode cX4_limit 40 = .ok (.dup, 1) := by decide +kernel
theorem dX4_limit_41 : decode cX4_limit 41 = .ok (.ldc_w 290, 3) := by decide +kernel
theorem dX4_limit_44 : decode cX4_limit 44 = .ok (.invokespecial 54, 3) := by decide +kernel
theorem dX4_limit_47 : decode cX4_limit 47 = .ok (.athrow, 1) := by decide +kernel
theorem dX4_limit_48 : decode cX4_limit 48 = .ok (.aload_n 0, 1) := by decide +kernel
theorem dX4_limit_49 : decode cX4_limit 49 = .ok (.getfield 24, 3) := by decide +kernel
theorem dX4_limit_52 : decode cX4_limit 52 = .ok (.iload_n 1, 1) := by decide +kernel
theorem dX4_limit_53 : decode cX4_limit 53 = .ok (.invokevirtual 99, 3) := by decide +kernel
theorem dX4_limit_56 : decode cX4_limit 56 = .ok (.checkcast 280, 3) := by decide +kernel
theorem dX4_limit_59 : decode cX4_limit 59 = .ok (.astore 4, 2) := by decide +kernel
theorem dX4_limit_61 : decode cX4_limit 61 = .ok (.aload 4, 2) := by decide +kernel
theorem dX4_limit_63 : decode cX4_limit 63 = .ok (.getfield 292, 3) := by decide +kernel
theorem dX4_limit_66 : decode cX4_limit 66 = .ok (.iload_n 2, 1) := by decide +kernel
theorem dX4_limit_67 : decode cX4_limit 67 = .ok (.iaload, 1) := by decide +kernel
theorem dX4_limit_68 : decode cX4_limit 68 = .ok (.iconst (-1), 1) := by decide +kernel
theorem dX4_limit_69 : decode cX4_limit 69 = .ok (.if_icmp .ne 14, 3) := by decide +kernel
theorem dX4_limit_72 : decode cX4_limit 72 = .ok (.aload 4, 2) := by decide +kernel
theorem dX4_limit_74 : decode cX4_limit 74 = .ok (.dup, 1) := by decide +kernel
theorem dX4_limit_75 : decode cX4_limit 75 = .ok (.getfield 296, 3) := by decide +kernel
theorem dX4_limit_78 : decode cX4_limit 78 = .ok (.iconst 1, 1) := by decide +kernel
theorem dX4_limit_79 : decode cX4_limit 79 = .ok (.iadd, 1) := by decide +kernel
theorem dX4_limit_80 : decode cX4_limit 80 = .ok (.putfield 296, 3) := by decide +kernel
theorem dX4_limit_83 : decode cX4_limit 83 = .ok (.aload 4, 2) := by decide +kernel
theorem dX4_limit_85 : decode cX4_limit 85 = .ok (.getfield 292, 3) := by decide +kernel
theorem dX4_limit_88 : decode cX4_limit 88 = .ok (.iload_n 2, 1) := by decide +kernel
theorem dX4_limit_89 : decode cX4_limit 89 = .ok (.iload_n 3, 1) := by decide +kernel
theorem dX4_limit_90 : decode cX4_limit 90 = .ok (.iastore, 1) := by decide +kernel
theorem dX4_limit_91 : decode cX4_limit 91 = .ok (.aload 4, 2) := by decide +kernel
theorem dX4_limit_93 : decode cX4_limit 93 = .ok (.getfield 296, 3) := by decide +kernel
theorem dX4_limit_96 : decode cX4_limit 96 = .ok (.ireturn, 1) := by decide +kernel
theorem dX4_wake_0 : decode cX4_wake 0 = .ok (.aload_n 0, 1) := by decide +kernel
theorem dX4_wake_1 : decode cX4_wake 1 = .ok (.iload_n 1, 1) := by decide +kernel
theorem dX4_wake_2 : decode cX4_wake 2 = .ok (.invokevirtual 285, 3) := by decide +kernel
theorem dX4_wake_5 : decode cX4_wake 5 = .ok (.ifCond .eq 15, 3) := by decide +kernel
theorem dX4_wake_8 : decode cX4_wake 8 = .ok (.iload_n 2, 1) := by decide +kernel
theorem dX4_wake_9 : decode cX4_wake 9 = .ok (.iconst (-1), 1) := by decide +kernel
theorem dX4_wake_10 : decode cX4_wake 10 = .ok (.if_icmp .eq 21, 3) := by decide +kernel
theorem dX4_wake_13 : decode cX4_wake 13 = .ok (.iload_n 2, 1) := by decide +kernel
theorem dX4_wake_14 : decode cX4_wake 14 = .ok (.invokestatic 30, 3) := by decide +kernel
theorem dX4_wake_17 : decode cX4_wake 17 = .ok (.ifCond .ne 14, 3) := by decide +kernel
theorem dX4_wake_20 : decode cX4_wake 20 = .ok (.new 37, 3) := by decide +kernel
theorem dX4_wake_23 : decode cX4_wake 23 = .ok (.dup, 1) := by decide +kernel
theorem dX4_wake_24 : decode cX4_wake 24 = .ok (.ldc_w 299, 3) := by decide +kernel
theorem dX4_wake_27 : decode cX4_wake 27 = .ok (.invokespecial 41, 3) := by decide +kernel
theorem dX4_wake_30 : decode cX4_wake 30 = .ok (.athrow, 1) := by decide +kernel
theorem dX4_wake_31 : decode cX4_wake 31 = .ok (.iload_n 3, 1) := by decide +kernel
theorem dX4_wake_32 : decode cX4_wake 32 = .ok (.ldc 44, 2) := by decide +kernel
theorem dX4_wake_34 : decode cX4_wake 34 = .ok (.ldc 45, 2) := by decide +kernel
theorem dX4_wake_36 : decode cX4_wake 36 = .ok (.invokestatic 46, 3) := by decide +kernel
theorem dX4_wake_39 : decode cX4_wake 39 = .ok (.ifCond .ne 14, 3) := by decide +kernel
theorem dX4_wake_42 : decode cX4_wake 42 = .ok (.new 50, 3) := by decide +kernel
theorem dX4_wake_45 : decode cX4_wake 45 = .ok (.dup, 1) := by decide +kernel
theorem dX4_wake_46 : decode cX4_wake 46 = .ok (.ldc_w 301, 3) := by decide +kernel
theorem dX4_wake_49 : decode cX4_wake 49 = .ok (.invokespecial 54, 3) := by decide +kernel
theorem dX4_wake_52 : decode cX4_wake 52 = .ok (.athrow, 1) := by decide +kernel
theorem dX4_wake_53 : decode cX4_wake 53 = .ok (.aload_n 0, 1) := by decide +kernel
theorem dX4_wake_54 : decode cX4_wake 54 = .ok (.getfield 24, 3) := by decide +kernel
theorem dX4_wake_57 : decode cX4_wake 57 = .ok (.iload_n 1, 1) := by decide +kernel
theorem dX4_wake_58 : decode cX4_wake 58 = .ok (.invokevirtual 99, 3) := by decide +kernel
theorem dX4_wake_61 : decode cX4_wake 61 = .ok (.checkcast 280, 3) := by decide +kernel
theorem dX4_wake_64 : decode cX4_wake 64 = .ok (.astore 4, 2) := by decide +kernel
theorem dX4_wake_66 : decode cX4_wake 66 = .ok (.aload 4, 2) := by decide +kernel
theorem dX4_wake_68 : decode cX4_wake 68 = .ok (.getfield 303, 3) := by decide +kernel
theorem dX4_wake_71 : decode cX4_wake 71 = .ok (.istore 5, 2) := by decide +kernel
theorem dX4_wake_73 : decode cX4_wake 73 = .ok (.aload 4, 2) := by decide +kernel
theorem dX4_wake_75 : decode cX4_wake 75 = .ok (.iload_n 2, 1) := by decide +kernel
theorem dX4_wake_76 : decode cX4_wake 76 = .ok (.putfield 303, 3) := by decide +kernel
theorem dX4_wake_79 : decode cX4_wake 79 = .ok (.aload 4, 2) := by decide +kernel
theorem dX4_wake_81 : decode cX4_wake 81 = .ok (.iload_n 3, 1) := by decide +kernel
theorem dX4_wake_82 : decode cX4_wake 82 = .ok (.putfield 306, 3) := by decide +kernel
theorem dX4_wake_85 : decode cX4_wake 85 = .ok (.iload 5, 2) := by decide +kernel
theorem dX4_wake_87 : decode cX4_wake 87 = .ok (.ireturn, 1) := by decide +kernel
theorem dX4_cure_0 : decode cX4_cure 0 = .ok (.aload_n 0, 1) := by decide +kernel
theorem dX4_cure_1 : decode cX4_cure 1 = .ok (.iload_n 1, 1) := by decide +kernel
theorem dX4_cure_2 : decode cX4_cure 2 = .ok (.invokevirtual 285, 3) := by decide +kernel
theorem dX4_cure_5 : decode cX4_cure 5 = .ok (.ifCond .eq 10, 3) := by decide +kernel
theorem dX4_cure_8 : decode cX4_cure 8 = .ok (.iload_n 2, 1) := by decide +kernel
theorem dX4_cure_9 : decode cX4_cure 9 = .ok (.invokestatic 34, 3) := by decide +kernel
theorem dX4_cure_12 : decode cX4_cure 12 = .ok (.ifCond .ne 14, 3) := by decide +kernel
theorem dX4_cure_15 : decode cX4_cure 15 = .ok (.new 37, 3) := by decide +kernel
theorem dX4_cure_18 : decode cX4_cure 18 = .ok (.dup, 1) := by decide +kernel
theorem dX4_cure_19 : decode cX4_cure 19 = .ok (.ldc_w 288, 3) := by decide +kernel
theorem dX4_cure_22 : decode cX4_cure 22 = .ok (.invokespecial 41, 3) := by decide +kernel
theorem dX4_cure_25 : decode cX4_cure 25 = .ok (.athrow, 1) := by decide +kernel
theorem dX4_cure_26 : decode cX4_cure 26 = .ok (.iload_n 3, 1) := by decide +kernel
theorem dX4_cure_27 : decode cX4_cure 27 = .ok (.iconst 1, 1) := by decide +kernel
theorem dX4_cure_28 : decode cX4_cure 28 = .ok (.ldc 45, 2) := by decide +kernel
theorem dX4_cure_30 : decode cX4_cure 30 = .ok (.invokestatic 46, 3) := by decide +kernel
theorem dX4_cure_33 : decode cX4_cure 33 = .ok (.ifCond .ne 14, 3) := by decide +kernel
theorem dX4_cure_36 : decode cX4_cure 36 = .ok (.new 50, 3) := by decide +kernel
theorem dX4_cure_39 : decode cX4_cure 39 = .ok (.dup, 1) := by decide +kernel
theorem dX4_cure_40 : decode cX4_cure 40 = .ok (.ldc_w 309, 3) := by decide +kernel
theorem dX4_cure_43 : decode cX4_cure 43 = .ok (.invokespecial 54, 3) := by decide +kernel
theorem dX4_cure_46 : decode cX4_cure 46 = .ok (.athrow, 1) := by decide +kernel
theorem dX4_cure_47 : decode cX4_cure 47 = .ok (.aload_n 0, 1) := by decide +kernel
theorem dX4_cure_48 : decode cX4_cure 48 = .ok (.getfield 24, 3) := by decide +kernel
theorem dX4_cure_51 : decode cX4_cure 51 = .ok (.iload_n 1, 1) := by decide +kernel
theorem dX4_cure_52 : decode cX4_cure 52 = .ok (.invokevirtual 99, 3) := by decide +kernel
theorem dX4_cure_55 : decode cX4_cure 55 = .ok (.checkcast 280, 3) := by decide +kernel
theorem dX4_cure_58 : decode cX4_cure 58 = .ok (.astore 4, 2) := by decide +kernel
theorem dX4_cure_60 : decode cX4_cure 60 = .ok (.aload 4, 2) := by decide +kernel
theorem dX4_cure_62 : decode cX4_cure 62 = .ok (.getfield 311, 3) := by decide +kernel
theorem dX4_cure_65 : decode cX4_cure 65 = .ok (.iload_n 2, 1) := by decide +kernel
theorem dX4_cure_66 : decode cX4_cure 66 = .ok (.iaload, 1) := by decide +kernel
theorem dX4_cure_67 : decode cX4_cure 67 = .ok (.ifCond .ne 15, 3) := by decide +kernel
theorem dX4_cure_70 : decode cX4_cure 70 = .ok (.aload 4, 2) := by decide +kernel
theorem dX4_cure_72 : decode cX4_cure 72 = .ok (.getfield 311, 3) := by decide +kernel
theorem dX4_cure_75 : decode cX4_cure 75 = .ok (.iload_n 2, 1) := by decide +kernel
theorem dX4_cure_76 : decode cX4_cure 76 = .ok (.invokestatic 314, 3) := by decide +kernel
theorem dX4_cure_79 : decode cX4_cure 79 = .ok (.ifCond .ne 14, 3) := by decide +kernel
theorem dX4_cure_82 : decode cX4_cure 82 = .ok (.new 64, 3) := by decide +kernel
theorem dX4_cure_85 : decode cX4_cure 85 = .ok (.dup, 1) := by decide +kernel
theorem dX4_cure_86 : decode cX4_cure 86 = .ok (.ldc_w 318, 3) := by decide +kernel
theorem dX4_cure_89 : decode cX4_cure 89 = .ok (.invokespecial 68, 3) := by decide +kernel
theorem dX4_cure_92 : decode cX4_cure 92 = .ok (.athrow, 1) := by decide +kernel
theorem dX4_cure_93 : decode cX4_cure 93 = .ok (.aload 4, 2) := by decide +kernel
theorem dX4_cure_95 : decode cX4_cure 95 = .ok (.getfield 311, 3) := by decide +kernel
theorem dX4_cure_98 : decode cX4_cure 98 = .ok (.iload_n 2, 1) := by decide +kernel
theorem dX4_cure_99 : decode cX4_cure 99 = .ok (.iload_n 3, 1) := by decide +kernel
theorem dX4_cure_100 : decode cX4_cure 100 = .ok (.iastore, 1) := by decide +kernel
theorem dX4_cure_101 : decode cX4_cure 101 = .ok (.aload 4, 2) := by decide +kernel
theorem dX4_cure_103 : decode cX4_cure 103 = .ok (.dup, 1) := by decide +kernel
theorem dX4_cure_104 : decode cX4_cure 104 = .ok (.getfield 320, 3) := by decide +kernel
theorem dX4_cure_107 : decode cX4_cure 107 = .ok (.iconst 1, 1) := by decide +kernel
theorem dX4_cure_108 : decode cX4_cure 108 = .ok (.iadd, 1) := by decide +kernel
theorem dX4_cure_109 : decode cX4_cure 109 = .ok (.putfield 320, 3) := by decide +kernel
theorem dX4_cure_112 : decode cX4_cure 112 = .ok (.aload 4, 2) := by decide +kernel
theorem dX4_cure_114 : decode cX4_cure 114 = .ok (.getfield 320, 3) := by decide +kernel
theorem dX4_cure_117 : decode cX4_cure 117 = .ok (.ireturn, 1) := by decide +kernel
theorem dX4_waive_0 : decode cX4_waive 0 = .ok (.aload_n 0, 1) := by decide +kernel
theorem dX4_waive_1 : decode cX4_waive 1 = .ok (.iload_n 1, 1) := by decide +kernel
theorem dX4_waive_2 : decode cX4_waive 2 = .ok (.invokevirtual 285, 3) := by decide +kernel
theorem dX4_waive_5 : decode cX4_waive 5 = .ok (.ifCond .eq 10, 3) := by decide +kernel
theorem dX4_waive_8 : decode cX4_waive 8 = .ok (.iload_n 2, 1) := by decide +kernel
theorem dX4_waive_9 : decode cX4_waive 9 = .ok (.invokestatic 34, 3) := by decide +kernel
theorem dX4_waive_12 : decode cX4_waive 12 = .ok (.ifCond .ne 14, 3) := by decide +kernel
theorem dX4_waive_15 : decode cX4_waive 15 = .ok (.new 37, 3) := by decide +kernel
theorem dX4_waive_18 : decode cX4_waive 18 = .ok (.dup, 1) := by decide +kernel
theorem dX4_waive_19 : decode cX4_waive 19 = .ok (.ldc_w 288, 3) := by decide +kernel
theorem dX4_waive_22 : decode cX4_waive 22 = .ok (.invokespecial 41, 3) := by decide +kernel
theorem dX4_waive_25 : decode cX4_waive 25 = .ok (.athrow, 1) := by decide +kernel
theorem dX4_waive_26 : decode cX4_waive 26 = .ok (.aload_n 0, 1) := by decide +kernel
theorem dX4_waive_27 : decode cX4_waive 27 = .ok (.getfield 24, 3) := by decide +kernel
theorem dX4_waive_30 : decode cX4_waive 30 = .ok (.iload_n 1, 1) := by decide +kernel
theorem dX4_waive_31 : decode cX4_waive 31 = .ok (.invokevirtual 99, 3) := by decide +kernel
theorem dX4_waive_34 : decode cX4_waive 34 = .ok (.checkcast 280, 3) := by decide +kernel
theorem dX4_waive_37 : decode cX4_waive 37 = .ok (.astore_n 3, 1) := by decide +kernel
theorem dX4_waive_38 : decode cX4_waive 38 = .ok (.aload_n 3, 1) := by decide +kernel
theorem dX4_waive_39 : decode cX4_waive 39 = .ok (.getfield 323, 3) := by decide +kernel
theorem dX4_waive_42 : decode cX4_waive 42 = .ok (.iload_n 2, 1) := by decide +kernel
theorem dX4_waive_43 : decode cX4_waive 43 = .ok (.aload_n 3, 1) := by decide +kernel
theorem dX4_waive_44 : decode cX4_waive 44 = .ok (.getfield 323, 3) := by decide +kernel
theorem dX4_waive_47 : decode cX4_waive 47 = .ok (.iload_n 2, 1) := by decide +kernel
theorem dX4_waive_48 : decode cX4_waive 48 = .ok (.baload, 1) := by decide +kernel
theorem dX4_waive_49 : decode cX4_waive 49 = .ok (.ifCond .ne 7, 3) := by decide +kernel
theorem dX4_waive_52 : decode cX4_waive 52 = .ok (.iconst 1, 1) := by decide +kernel
theorem dX4_waive_53 : decode cX4_waive 53 = .ok (.goto 4, 3) := by decide +kernel
theorem dX4_waive_56 : decode cX4_waive 56 = .ok (.iconst 0, 1) := by decide +kernel
theorem dX4_waive_57 : decode cX4_waive 57 = .ok (.bastore, 1) := by decide +kernel
theorem dX4_waive_58 : decode cX4_waive 58 = .ok (.aload_n 3, 1) := by decide +kernel
theorem dX4_waive_59 : decode cX4_waive 59 = .ok (.getfield 323, 3) := by decide +kernel
theorem dX4_waive_62 : decode cX4_waive 62 = .ok (.iload_n 2, 1) := by decide +kernel
theorem dX4_waive_63 : decode cX4_waive 63 = .ok (.baload, 1) := by decide +kernel
theorem dX4_waive_64 : decode cX4_waive 64 = .ok (.ireturn, 1) := by decide +kernel
theorem dX4_state_0 : decode cX4_state 0 = .ok (.aload_n 0, 1) := by decide +kernel
theorem dX4_state_1 : decode cX4_state 1 = .ok (.iload_n 1, 1) := by decide +kernel
theorem dX4_state_2 : decode cX4_state 2 = .ok (.invokevirtual 285, 3) := by decide +kernel
theorem dX4_state_5 : decode cX4_state 5 = .ok (.ifCond .eq 10, 3) := by decide +kernel
theorem dX4_state_8 : decode cX4_state 8 = .ok (.iload_n 2, 1) := by decide +kernel
theorem dX4_state_9 : decode cX4_state 9 = .ok (.invokestatic 34, 3) := by decide +kernel
theorem dX4_state_12 : decode cX4_state 12 = .ok (.ifCond .ne 14, 3) := by decide +kernel
theorem dX4_state_15 : decode cX4_state 15 = .ok (.new 37, 3) := by decide +kernel
theorem dX4_state_18 : decode cX4_state 18 = .ok (.dup, 1) := by decide +kernel
theorem dX4_state_19 : decode cX4_state 19 = .ok (.ldc_w 288, 3) := by decide +kernel
theorem dX4_state_22 : decode cX4_state 22 = .ok (.invokespecial 41, 3) := by decide +kernel
theorem dX4_state_25 : decode cX4_state 25 = .ok (.athrow, 1) := by decide +kernel
theorem dX4_state_26 : decode cX4_state 26 = .ok (.aload_n 0, 1) := by decide +kernel
theorem dX4_state_27 : decode cX4_state 27 = .ok (.aload_n 0, 1) := by decide +kernel
theorem dX4_state_28 : decode cX4_state 28 = .ok (.getfield 24, 3) := by decide +kernel
theorem dX4_state_31 : decode cX4_state 31 = .ok (.iload_n 1, 1) := by decide +kernel
theorem dX4_state_32 : decode cX4_state 32 = .ok (.invokevirtual 99, 3) := by decide +kernel
theorem dX4_state_35 : decode cX4_state 35 = .ok (.checkcast 280, 3) := by decide +kernel
theorem dX4_state_38 : decode cX4_state 38 = .ok (.iload_n 2, 1) := by decide +kernel
theorem dX4_state_39 : decode cX4_state 39 = .ok (.invokevirtual 327, 3) := by decide +kernel
theorem dX4_state_42 : decode cX4_state 42 = .ok (.ireturn, 1) := by decide +kernel
theorem dX4_room_0 : decode cX4_room 0 = .ok (.aload_n 0, 1) := by decide +kernel
theorem dX4_room_1 : decode cX4_room 1 = .ok (.iload_n 1, 1) := by decide +kernel
theorem dX4_room_2 : decode cX4_room 2 = .ok (.invokevirtual 285, 3) := by decide +kernel
theorem dX4_room_5 : decode cX4_room 5 = .ok (.ifCond .eq 10, 3) := by decide +kernel
theorem dX4_room_8 : decode cX4_room 8 = .ok (.iload_n 2, 1) := by decide +kernel
theorem dX4_room_9 : decode cX4_room 9 = .ok (.invokestatic 34, 3) := by decide +kernel
theorem dX4_room_12 : decode cX4_room 12 = .ok (.ifCond .ne 14, 3) := by decide +kernel
theorem dX4_room_15 : decode cX4_room 15 = .ok (.new 37, 3) := by decide +kernel
theorem dX4_room_18 : decode cX4_room 18 = .ok (.dup, 1) := by decide +kernel
theorem dX4_room_19 : decode cX4_room 19 = .ok (.ldc_w 288, 3) := by decide +kernel
theorem dX4_room_22 : decode cX4_room 22 = .ok (.invokespecial 41, 3) := by decide +kernel
theorem dX4_room_25 : decode cX4_room 25 = .ok (.athrow, 1) := by decide +kernel
theorem dX4_room_26 : decode cX4_room 26 = .ok (.aload_n 0, 1) := by decide +kernel
theorem dX4_room_27 : decode cX4_room 27 = .ok (.getfield 24, 3) := by decide +kernel
theorem dX4_room_30 : decode cX4_room 30 = .ok (.iload_n 1, 1) := by decide +kernel
theorem dX4_room_31 : decode cX4_room 31 = .ok (.invokevirtual 99, 3) := by decide +kernel
theorem dX4_room_34 : decode cX4_room 34 = .ok (.checkcast 280, 3) := by decide +kernel
theorem dX4_room_37 : decode cX4_room 37 = .ok (.astore_n 3, 1) := by decide +kernel
theorem dX4_room_38 : decode cX4_room 38 = .ok (.aload_n 3, 1) := by decide +kernel
theorem dX4_room_39 : decode cX4_room 39 = .ok (.iload_n 2, 1) := by decide +kernel
theorem dX4_room_40 : decode cX4_room 40 = .ok (.invokestatic 331, 3) := by decide +kernel
theorem dX4_room_43 : decode cX4_room 43 = .ok (.istore 4, 2) := by decide +kernel
theorem dX4_room_45 : decode cX4_room 45 = .ok (.aload_n 3, 1) := by decide +kernel
theorem dX4_room_46 : decode cX4_room 46 = .ok (.getfield 334, 3) := by decide +kernel
theorem dX4_room_49 : decode cX4_room 49 = .ok (.getfield 113, 3) := by decide +kernel
theorem dX4_room_52 : decode cX4_room 52 = .ok (.iload_n 2, 1) := by decide +kernel
theorem dX4_room_53 : decode cX4_room 53 = .ok (.laload, 1) := by decide +kernel
theorem dX4_room_54 : decode cX4_room 54 = .ok (.aload_n 3, 1) := by decide +kernel
theorem dX4_room_55 : decode cX4_room 55 = .ok (.getfield 311, 3) := by decide +kernel
theorem dX4_room_58 : decode cX4_room 58 = .ok (.iload_n 2, 1) := by decide +kernel
theorem dX4_room_59 : decode cX4_room 59 = .ok (.iaload, 1) := by decide +kernel
theorem dX4_room_60 : decode cX4_room 60 = .ok (.i2l, 1) := by decide +kernel
theorem dX4_room_61 : decode cX4_room 61 = .ok (.ladd, 1) := by decide +kernel
theorem dX4_room_62 : decode cX4_room 62 = .ok (.lstore 5, 2) := by decide +kernel
theorem dX4_room_64 : decode cX4_room 64 = .ok (.iload 4, 2) := by decide +kernel
theorem dX4_room_66 : decode cX4_room 66 = .ok (.iconst (-1), 1) := by decide +kernel
theorem dX4_room_67 : decode cX4_room 67 = .ok (.if_icmp .eq 10, 3) := by decide +kernel
theorem dX4_room_70 : decode cX4_room 70 = .ok (.lload 5, 2) := by decide +kernel
theorem dX4_room_72 : decode cX4_room 72 = .ok (.lconst 0, 1) := by decide +kernel
theorem dX4_room_73 : decode cX4_room 73 = .ok (.lcmp, 1) := by decide +kernel
theorem dX4_room_74 : decode cX4_room 74 = .ok (.ifCond .gt 14, 3) := by decide +kernel
theorem dX4_room_77 : decode cX4_room 77 = .ok (.new 64, 3) := by decide +kernel
theorem dX4_room_80 : decode cX4_room 80 = .ok (.dup, 1) := by decide +kernel
theorem dX4_room_81 : decode cX4_room 81 = .ok (.ldc_w 338, 3) := by decide +kernel
theorem dX4_room_84 : decode cX4_room 84 = .ok (.invokespecial 68, 3) := by decide +kernel
theorem dX4_room_87 : decode cX4_room 87 = .ok (.athrow, 1) := by decide +kernel
theorem dX4_room_88 : decode cX4_room 88 = .ok (.iload 4, 2) := by decide +kernel
theorem dX4_room_90 : decode cX4_room 90 = .ok (.i2l, 1) := by decide +kernel
theorem dX4_room_91 : decode cX4_room 91 = .ok (.lload 5, 2) := by decide +kernel
theorem dX4_room_93 : decode cX4_room 93 = .ok (.lmul, 1) := by decide +kernel
theorem dX4_room_94 : decode cX4_room 94 = .ok (.ldc2_w 273, 3) := by decide +kernel
theorem dX4_room_97 : decode cX4_room 97 = .ok (.invokestatic 275, 3) := by decide +kernel
theorem dX4_room_100 : decode cX4_room 100 = .ok (.aload_n 3, 1) := by decide +kernel
theorem dX4_room_101 : decode cX4_room 101 = .ok (.getfield 340, 3) := by decide +kernel
theorem dX4_room_104 : decode cX4_room 104 = .ok (.getfield 113, 3) := by decide +kernel
theorem dX4_room_107 : decode cX4_room 107 = .ok (.iload_n 2, 1) := by decide +kernel
theorem dX4_room_108 : decode cX4_room 108 = .ok (.laload, 1) := by decide +kernel
theorem dX4_room_109 : decode cX4_room 109 = .ok (.lsub, 1) := by decide +kernel
theorem dX4_room_110 : decode cX4_room 110 = .ok (.lreturn, 1) := by decide +kernel
theorem dX4_broken_0 : decode cX4_broken 0 = .ok (.iconst 0, 1) := by decide +kernel
theorem dX4_broken_1 : decode cX4_broken 1 = .ok (.istore_n 1, 1) := by decide +kernel
theorem dX4_broken_2 : decode cX4_broken 2 = .ok (.iconst 0, 1) := by decide +kernel
theorem dX4_broken_3 : decode cX4_broken 3 = .ok (.istore_n 2, 1) := by decide +kernel
theorem dX4_broken_4 : decode cX4_broken 4 = .ok (.iload_n 2, 1) := by decide +kernel
theorem dX4_broken_5 : decode cX4_broken 5 = .ok (.aload_n 0, 1) := by decide +kernel
theorem dX4_broken_6 : decode cX4_broken 6 = .ok (.getfield 24, 3) := by decide +kernel
theorem dX4_broken_9 : decode cX4_broken 9 = .ok (.invokevirtual 60, 3) := by decide +kernel
theorem dX4_broken_12 : decode cX4_broken 12 = .ok (.if_icmp .ge 46, 3) := by decide +kernel
theorem dX4_broken_15 : decode cX4_broken 15 = .ok (.iconst 0, 1) := by decide +kernel
theorem dX4_broken_16 : decode cX4_broken 16 = .ok (.istore_n 3, 1) := by decide +kernel
theorem dX4_broken_17 : decode cX4_broken 17 = .ok (.iload_n 3, 1) := by decide +kernel
theorem dX4_broken_18 : decode cX4_broken 18 = .ok (.bipush 20, 2) := by decide +kernel
theorem dX4_broken_20 : decode cX4_broken 20 = .ok (.if_icmp .ge 32, 3) := by decide +kernel
theorem dX4_broken_23 : decode cX4_broken 23 = .ok (.aload_n 0, 1) := by decide +kernel
theorem dX4_broken_24 : decode cX4_broken 24 = .ok (.aload_n 0, 1) := by decide +kernel
theorem dX4_broken_25 : decode cX4_broken 25 = .ok (.getfield 24, 3) := by decide +kernel
theorem dX4_broken_28 : decode cX4_broken 28 = .ok (.iload_n 2, 1) := by decide +kernel
theorem dX4_broken_29 : decode cX4_broken 29 = .ok (.invokevirtual 99, 3) := by decide +kernel
theorem dX4_broken_32 : decode cX4_broken 32 = .ok (.checkcast 280, 3) := by decide +kernel
theorem dX4_broken_35 : decode cX4_broken 35 = .ok (.iload_n 3, 1) := by decide +kernel
theorem dX4_broken_36 : decode cX4_broken 36 = .ok (.invokevirtual 327, 3) := by decide +kernel
theorem dX4_broken_39 : decode cX4_broken 39 = .ok (.iconst 4, 1) := by decide +kernel
theorem dX4_broken_40 : decode cX4_broken 40 = .ok (.if_icmp .ne 6, 3) := by decide +kernel
theorem dX4_broken_43 : decode cX4_broken 43 = .ok (.iinc 1 1, 3) := by decide +kernel
theorem dX4_broken_46 : decode cX4_broken 46 = .ok (.iinc 3 1, 3) := by decide +kernel
theorem dX4_broken_49 : decode cX4_broken 49 = .ok (.goto (-32), 3) := by decide +kernel
theorem dX4_broken_52 : decode cX4_broken 52 = .ok (.iinc 2 1, 3) := by decide +kernel
theorem dX4_broken_55 : decode cX4_broken 55 = .ok (.goto (-51), 3) := by decide +kernel
theorem dX4_broken_58 : decode cX4_broken 58 = .ok (.iload_n 1, 1) := by decide +kernel
theorem dX4_broken_59 : decode cX4_broken 59 = .ok (.ireturn, 1) := by decide +kernel
theorem dX4_stateIn_0 : decode cX4_stateIn 0 = .ok (.aload_n 1, 1) := by decide +kernel
theorem dX4_stateIn_1 : decode cX4_stateIn 1 = .ok (.iload_n 2, 1) := by decide +kernel
theorem dX4_stateIn_2 : decode cX4_stateIn 2 = .ok (.invokestatic 331, 3) := by decide +kernel
theorem dX4_stateIn_5 : decode cX4_stateIn 5 = .ok (.istore_n 3, 1) := by decide +kernel
theorem dX4_stateIn_6 : decode cX4_stateIn 6 = .ok (.iload_n 3, 1) := by decide +kernel
theorem dX4_stateIn_7 : decode cX4_stateIn 7 = .ok (.iconst (-1), 1) := by decide +kernel
theorem dX4_stateIn_8 : decode cX4_stateIn 8 = .ok (.if_icmp .eq 12, 3) := by decide +kernel
theorem dX4_stateIn_11 : decode cX4_stateIn 11 = .ok (.aload_n 0, 1) := by decide +kernel
theorem dX4_stateIn_12 : decode cX4_stateIn 12 = .ok (.aload_n 1, 1) := by decide +kernel
theorem dX4_stateIn_13 : decode cX4_stateIn 13 = .ok (.iload_n 2, 1) := by decide +kernel
theorem dX4_stateIn_14 : decode cX4_stateIn 14 = .ok (.invokevirtual 343, 3) := by decide +kernel
theorem dX4_stateIn_17 : decode cX4_stateIn 17 = .ok (.ifCond .eq 5, 3) := by decide +kernel
theorem dX4_stateIn_20 : decode cX4_stateIn 20 = .ok (.iconst 0, 1) := by decide +kernel
theorem dX4_stateIn_21 : decode cX4_stateIn 21 = .ok (.ireturn, 1) := by decide +kernel
theorem dX4_stateIn_22 : decode cX4_stateIn 22 = .ok (.aload_n 1, 1) := by decide +kernel
theorem dX4_stateIn_23 : decode cX4_stateIn 23 = .ok (.getfield 340, 3) := by decide +kernel
theorem dX4_stateIn_26 : decode cX4_stateIn 26 = .ok (.getfield 113, 3) := by decide +kernel
theorem dX4_stateIn_29 : decode cX4_stateIn 29 = .ok (.iload_n 2, 1) := by decide +kernel
theorem dX4_stateIn_30 : decode cX4_stateIn 30 = .ok (.laload, 1) := by decide +kernel
theorem dX4_stateIn_31 : decode cX4_stateIn 31 = .ok (.lstore 4, 2) := by decide +kernel
theorem dX4_stateIn_33 : decode cX4_stateIn 33 = .ok (.aload_n 1, 1) := by decide +kernel
theorem dX4_stateIn_34 : decode cX4_stateIn 34 = .ok (.getfield 334, 3) := by decide +kernel
theorem dX4_stateIn_37 : decode cX4_stateIn 37 = .ok (.getfield 113, 3) := by decide +kernel
theorem dX4_stateIn_40 : decode cX4_stateIn 40 = .ok (.iload_n 2, 1) := by decide +kernel
theorem dX4_stateIn_41 : decode cX4_stateIn 41 = .ok (.laload, 1) := by decide +kernel
theorem dX4_stateIn_42 : decode cX4_stateIn 42 = .ok (.lstore 6, 2) := by decide +kernel
theorem dX4_stateIn_44 : decode cX4_stateIn 44 = .ok (.lload 4, 2) := by decide +kernel
theorem dX4_stateIn_46 : decode cX4_stateIn 46 = .ok (.lload 6, 2) := by decide +kernel
theorem dX4_stateIn_48 : decode cX4_stateIn 48 = .ok (.iload_n 3, 1) := by decide +kernel
theorem dX4_stateIn_49 : decode cX4_stateIn 49 = .ok (.invokestatic 347, 3) := by decide +kernel
theorem dX4_stateIn_52 : decode cX4_stateIn 52 = .ok (.ifCond .eq 5, 3) := by decide +kernel
theorem dX4_stateIn_55 : decode cX4_stateIn 55 = .ok (.iconst 1, 1) := by decide +kernel
theorem dX4_stateIn_56 : decode cX4_stateIn 56 = .ok (.ireturn, 1) := by decide +kernel
theorem dX4_stateIn_57 : decode cX4_stateIn 57 = .ok (.lload 4, 2) := by decide +kernel
theorem dX4_stateIn_59 : decode cX4_stateIn 59 = .ok (.lload 6, 2) := by decide +kernel
theorem dX4_stateIn_61 : decode cX4_stateIn 61 = .ok (.aload_n 1, 1) := by decide +kernel
theorem dX4_stateIn_62 : decode cX4_stateIn 62 = .ok (.getfield 311, 3) := by decide +kernel
theorem dX4_stateIn_65 : decode cX4_stateIn 65 = .ok (.iload_n 2, 1) := by decide +kernel
theorem dX4_stateIn_66 : decode cX4_stateIn 66 = .ok (.iaload, 1) := by decide +kernel
theorem dX4_stateIn_67 : decode cX4_stateIn 67 = .ok (.i2l, 1) := by decide +kernel
theorem dX4_stateIn_68 : decode cX4_stateIn 68 = .ok (.ladd, 1) := by decide +kernel
theorem dX4_stateIn_69 : decode cX4_stateIn 69 = .ok (.iload_n 3, 1) := by decide +kernel
theorem dX4_stateIn_70 : decode cX4_stateIn 70 = .ok (.invokestatic 347, 3) := by decide +kernel
theorem dX4_stateIn_73 : decode cX4_stateIn 73 = .ok (.ifCond .eq 5, 3) := by decide +kernel
theorem dX4_stateIn_76 : decode cX4_stateIn 76 = .ok (.iconst 2, 1) := by decide +kernel
theorem dX4_stateIn_77 : decode cX4_stateIn 77 = .ok (.ireturn, 1) := by decide +kernel
theorem dX4_stateIn_78 : decode cX4_stateIn 78 = .ok (.aload_n 1, 1) := by decide +kernel
theorem dX4_stateIn_79 : decode cX4_stateIn 79 = .ok (.getfield 323, 3) := by decide +kernel
theorem dX4_stateIn_82 : decode cX4_stateIn 82 = .ok (.iload_n 2, 1) := by decide +kernel
theorem dX4_stateIn_83 : decode cX4_stateIn 83 = .ok (.baload, 1) := by decide +kernel
theorem dX4_stateIn_84 : decode cX4_stateIn 84 = .ok (.ifCond .eq 7, 3) := by decide +kernel
theorem dX4_stateIn_87 : decode cX4_stateIn 87 = .ok (.iconst 3, 1) := by decide +kernel
theorem dX4_stateIn_88 : decode cX4_stateIn 88 = .ok (.goto 4, 3) := by decide +kernel
theorem dX4_stateIn_91 : decode cX4_stateIn 91 = .ok (.iconst 4, 1) := by decide +kernel
theorem dX4_stateIn_92 : decode cX4_stateIn 92 = .ok (.ireturn, 1) := by decide +kernel
theorem dX4_isBelowWake_0 : decode cX4_isBelowWake 0 = .ok (.aload_n 1, 1) := by decide +kernel
theorem dX4_isBelowWake_1 : decode cX4_isBelowWake 1 = .ok (.getfield 303, 3) := by decide +kernel
theorem dX4_isBelowWake_4 : decode cX4_isBelowWake 4 = .ok (.istore_n 3, 1) := by decide +kernel
theorem dX4_isBelowWake_5 : decode cX4_isBelowWake 5 = .ok (.iload_n 3, 1) := by decide +kernel
theorem dX4_isBelowWake_6 : decode cX4_isBelowWake 6 = .ok (.invokestatic 30, 3) := by decide +kernel
theorem dX4_isBelowWake_9 : decode cX4_isBelowWake 9 = .ok (.ifCond .eq 24, 3) := by decide +kernel
theorem dX4_isBelowWake_12 : decode cX4_isBelowWake 12 = .ok (.aload_n 0, 1) := by decide +kernel
theorem dX4_isBelowWake_13 : decode cX4_isBelowWake 13 = .ok (.getfield 11, 3) := by decide +kernel
theorem dX4_isBelowWake_16 : decode cX4_isBelowWake 16 = .ok (.iload_n 3, 1) := by decide +kernel
theorem dX4_isBelowWake_17 : decode cX4_isBelowWake 17 = .ok (.aaload, 1) := by decide +kernel
theorem dX4_isBelowWake_18 : decode cX4_isBelowWake 18 = .ok (.iload_n 2, 1) := by decide +kernel
theorem dX4_isBelowWake_19 : decode cX4_isBelowWake 19 = .ok (.laload, 1) := by decide +kernel
theorem dX4_isBelowWake_20 : decode cX4_isBelowWake 20 = .ok (.aload_n 1, 1) := by decide +kernel
theorem dX4_isBelowWake_21 : decode cX4_isBelowWake 21 = .ok (.getfield 306, 3) := by decide +kernel
theorem dX4_isBelowWake_24 : decode cX4_isBelowWake 24 = .ok (.i2l, 1) := by decide +kernel
theorem dX4_isBelowWake_25 : decode cX4_isBelowWake 25 = .ok (.lcmp, 1) := by decide +kernel
theorem dX4_isBelowWake_26 : decode cX4_isBelowWake 26 = .ok (.ifCond .ge 7, 3) := by decide +kernel
theorem dX4_isBelowWake_29 : decode cX4_isBelowWake 29 = .ok (.iconst 1, 1) := by decide +kernel
theorem dX4_isBelowWake_30 : decode cX4_isBelowWake 30 = .ok (.goto 4, 3) := by decide +kernel
theorem dX4_isBelowWake_33 : decode cX4_isBelowWake 33 = .ok (.iconst 0, 1) := by decide +kernel
theorem dX4_isBelowWake_34 : decode cX4_isBelowWake 34 = .ok (.ireturn, 1) := by decide +kernel
theorem dX4_isKept_0 : decode cX4_isKept 0 = .ok (.lload_n 2, 1) := by decide +kernel
theorem dX4_isKept_1 : decode cX4_isKept 1 = .ok (.lconst 0, 1) := by decide +kernel
theorem dX4_isKept_2 : decode cX4_isKept 2 = .ok (.lcmp, 1) := by decide +kernel
theorem dX4_isKept_3 : decode cX4_isKept 3 = .ok (.ifCond .le 21, 3) := by decide +kernel
theorem dX4_isKept_6 : decode cX4_isKept 6 = .ok (.ldc2_w 273, 3) := by decide +kernel
theorem dX4_isKept_9 : decode cX4_isKept 9 = .ok (.lload_n 0, 1) := by decide +kernel
theorem dX4_isKept_10 : decode cX4_isKept 10 = .ok (.lmul, 1) := by decide +kernel
theorem dX4_isKept_11 : decode cX4_isKept 11 = .ok (.iload 4, 2) := by decide +kernel
theorem dX4_isKept_13 : decode cX4_isKept 13 = .ok (.i2l, 1) := by decide +kernel
theorem dX4_isKept_14 : decode cX4_isKept 14 = .ok (.lload_n 2, 1) := by decide +kernel
theorem dX4_isKept_15 : decode cX4_isKept 15 = .ok (.lmul, 1) := by decide +kernel
theorem dX4_isKept_16 : decode cX4_isKept 16 = .ok (.lcmp, 1) := by decide +kernel
theorem dX4_isKept_17 : decode cX4_isKept 17 = .ok (.ifCond .gt 7, 3) := by decide +kernel
theorem dX4_isKept_20 : decode cX4_isKept 20 = .ok (.iconst 1, 1) := by decide +kernel
theorem dX4_isKept_21 : decode cX4_isKept 21 = .ok (.goto 4, 3) := by decide +kernel
theorem dX4_isKept_24 : decode cX4_isKept 24 = .ok (.iconst 0, 1) := by decide +kernel
theorem dX4_isKept_25 : decode cX4_isKept 25 = .ok (.ireturn, 1) := by decide +kernel
theorem dX4_limitIn_0 : decode cX4_limitIn 0 = .ok (.iload_n 1, 1) := by decide +kernel
theorem dX4_limitIn_1 : decode cX4_limitIn 1 = .ok (.istore_n 2, 1) := by decide +kernel
theorem dX4_limitIn_2 : decode cX4_limitIn 2 = .ok (.iload_n 2, 1) := by decide +kernel
theorem dX4_limitIn_3 : decode cX4_limitIn 3 = .ok (.ifCond .lt 26, 3) := by decide +kernel
theorem dX4_limitIn_6 : decode cX4_limitIn 6 = .ok (.aload_n 0, 1) := by decide +kernel
theorem dX4_limitIn_7 : decode cX4_limitIn 7 = .ok (.getfield 292, 3) := by decide +kernel
theorem dX4_limitIn_10 : decode cX4_limitIn 10 = .ok (.iload_n 2, 1) := by decide +kernel
theorem dX4_limitIn_11 : decode cX4_limitIn 11 = .ok (.iaload, 1) := by decide +kernel
theorem dX4_limitIn_12 : decode cX4_limitIn 12 = .ok (.iconst (-1), 1) := by decide +kernel
theorem dX4_limitIn_13 : decode cX4_limitIn 13 = .ok (.if_icmp .eq 10, 3) := by decide +kernel
theorem dX4_limitIn_16 : decode cX4_limitIn 16 = .ok (.aload_n 0, 1) := by decide +kernel
theorem dX4_limitIn_17 : decode cX4_limitIn 17 = .ok (.getfield 292, 3) := by decide +kernel
theorem dX4_limitIn_20 : decode cX4_limitIn 20 = .ok (.iload_n 2, 1) := by decide +kernel
theorem dX4_limitIn_21 : decode cX4_limitIn 21 = .ok (.iaload, 1) := by decide +kernel
theorem dX4_limitIn_22 : decode cX4_limitIn 22 = .ok (.ireturn, 1) := by decide +kernel
theorem dX4_limitIn_23 : decode cX4_limitIn 23 = .ok (.iinc 2 (-1), 3) := by decide +kernel
theorem dX4_limitIn_26 : decode cX4_limitIn 26 = .ok (.goto (-24), 3) := by decide +kernel
theorem dX4_limitIn_29 : decode cX4_limitIn 29 = .ok (.iconst (-1), 1) := by decide +kernel
theorem dX4_limitIn_30 : decode cX4_limitIn 30 = .ok (.ireturn, 1) := by decide +kernel
theorem dX4_hasCureLeft_0 : decode cX4_hasCureLeft 0 = .ok (.iload_n 1, 1) := by decide +kernel
theorem dX4_hasCureLeft_1 : decode cX4_hasCureLeft 1 = .ok (.iconst 4, 1) := by decide +kernel
theorem dX4_hasCureLeft_2 : decode cX4_hasCureLeft 2 = .ok (.isub, 1) := by decide +kernel
theorem dX4_hasCureLeft_3 : decode cX4_hasCureLeft 3 = .ok (.iconst 1, 1) := by decide +kernel
theorem dX4_hasCureLeft_4 : decode cX4_hasCureLeft 4 = .ok (.iadd, 1) := by decide +kernel
theorem dX4_hasCureLeft_5 : decode cX4_hasCureLeft 5 = .ok (.istore_n 2, 1) := by decide +kernel
theorem dX4_hasCureLeft_6 : decode cX4_hasCureLeft 6 = .ok (.iload_n 2, 1) := by decide +kernel
theorem dX4_hasCureLeft_7 : decode cX4_hasCureLeft 7 = .ok (.iload_n 1, 1) := by decide +kernel
theorem dX4_hasCureLeft_8 : decode cX4_hasCureLeft 8 = .ok (.if_icmp .gt 20, 3) := by decide +kernel
theorem dX4_hasCureLeft_11 : decode cX4_hasCureLeft 11 = .ok (.aload_n 0, 1) := by decide +kernel
theorem dX4_hasCureLeft_12 : decode cX4_hasCureLeft 12 = .ok (.iload_n 2, 1) := by decide +kernel
theorem dX4_hasCureLeft_13 : decode cX4_hasCureLeft 13 = .ok (.invokestatic 351, 3) := by decide +kernel
theorem dX4_hasCureLeft_16 : decode cX4_hasCureLeft 16 = .ok (.iconst 2, 1) := by decide +kernel
theorem dX4_hasCureLeft_17 : decode cX4_hasCureLeft 17 = .ok (.if_icmp .lt 5, 3) := by decide +kernel
theorem dX4_hasCureLeft_20 : decode cX4_hasCureLeft 20 = .ok (.iconst 0, 1) := by decide +kernel
theorem dX4_hasCureLeft_21 : decode cX4_hasCureLeft 21 = .ok (.ireturn, 1) := by decide +kernel
theorem dX4_hasCureLeft_22 : decode cX4_hasCureLeft 22 = .ok (.iinc 2 1, 3) := by decide +kernel
theorem dX4_hasCureLeft_25 : decode cX4_hasCureLeft 25 = .ok (.goto (-19), 3) := by decide +kernel
theorem dX4_hasCureLeft_28 : decode cX4_hasCureLeft 28 = .ok (.iconst 1, 1) := by decide +kernel
theorem dX4_hasCureLeft_29 : decode cX4_hasCureLeft 29 = .ok (.ireturn, 1) := by decide +kernel
theorem dX4_curesFrom_0 : decode cX4_curesFrom 0 = .ok (.iconst 0, 1) := by decide +kernel
theorem dX4_curesFrom_1 : decode cX4_curesFrom 1 = .ok (.istore_n 2, 1) := by decide +kernel
theorem dX4_curesFrom_2 : decode cX4_curesFrom 2 = .ok (.iload_n 1, 1) := by decide +kernel
theorem dX4_curesFrom_3 : decode cX4_curesFrom 3 = .ok (.istore_n 3, 1) := by decide +kernel
theorem dX4_curesFrom_4 : decode cX4_curesFrom 4 = .ok (.iload_n 3, 1) := by decide +kernel
theorem dX4_curesFrom_5 : decode cX4_curesFrom 5 = .ok (.iload_n 1, 1) := by decide +kernel
theorem dX4_curesFrom_6 : decode cX4_curesFrom 6 = .ok (.iconst 4, 1) := by decide +kernel
theorem dX4_curesFrom_7 : decode cX4_curesFrom 7 = .ok (.iadd, 1) := by decide +kernel
theorem dX4_curesFrom_8 : decode cX4_curesFrom 8 = .ok (.if_icmp .ge 25, 3) := by decide +kernel
theorem dX4_curesFrom_11 : decode cX4_curesFrom 11 = .ok (.iload_n 3, 1) := by decide +kernel
theorem dX4_curesFrom_12 : decode cX4_curesFrom 12 = .ok (.invokestatic 34, 3) := by decide +kernel
theorem dX4_curesFrom_15 : decode cX4_curesFrom 15 = .ok (.ifCond .eq 12, 3) := by decide +kernel
theorem dX4_curesFrom_18 : decode cX4_curesFrom 18 = .ok (.aload_n 0, 1) := by decide +kernel
theorem dX4_curesFrom_19 : decode cX4_curesFrom 19 = .ok (.iload_n 3, 1) := by decide +kernel
theorem dX4_curesFrom_20 : decode cX4_curesFrom 20 = .ok (.iaload, 1) := by decide +kernel
theorem dX4_curesFrom_21 : decode cX4_curesFrom 21 = .ok (.ifCond .eq 6, 3) := by decide +kernel
theorem dX4_curesFrom_24 : decode cX4_curesFrom 24 = .ok (.iinc 2 1, 3) := by decide +kernel
theorem dX4_curesFrom_27 : decode cX4_curesFrom 27 = .ok (.iinc 3 1, 3) := by decide +kernel
theorem dX4_curesFrom_30 : decode cX4_curesFrom 30 = .ok (.goto (-26), 3) := by decide +kernel
theorem dX4_curesFrom_33 : decode cX4_curesFrom 33 = .ok (.iload_n 2, 1) := by decide +kernel
theorem dX4_curesFrom_34 : decode cX4_curesFrom 34 = .ok (.ireturn, 1) := by decide +kernel
theorem dX4_basket_0 : decode cX4_basket 0 = .ok (.iload_n 1, 1) := by decide +kernel
theorem dX4_basket_1 : decode cX4_basket 1 = .ok (.iconst 0, 1) := by decide +kernel
theorem dX4_basket_2 : decode cX4_basket 2 = .ok (.ldc 45, 2) := by decide +kernel
theorem dX4_basket_4 : decode cX4_basket 4 = .ok (.invokestatic 46, 3) := by decide +kernel
theorem dX4_basket_7 : decode cX4_basket 7 = .ok (.ifCond .eq 13, 3) := by decide +kernel
theorem dX4_basket_10 : decode cX4_basket 10 = .ok (.iload_n 3, 1) := by decide +kernel
theorem dX4_basket_11 : decode cX4_basket 11 = .ok (.iconst 0, 1) := by decide +kernel
theorem dX4_basket_12 : decode cX4_basket 12 = .ok (.bipush 100, 2) := by decide +kernel
theorem dX4_basket_14 : decode cX4_basket 14 = .ok (.invokestatic 46, 3) := by decide +kernel
theorem dX4_basket_17 : decode cX4_basket 17 = .ok (.ifCond .ne 14, 3) := by decide +kernel
theorem dX4_basket_20 : decode cX4_basket 20 = .ok (.new 50, 3) := by decide +kernel
theorem dX4_basket_23 : decode cX4_basket 23 = .ok (.dup, 1) := by decide +kernel
theorem dX4_basket_24 : decode cX4_basket 24 = .ok (.ldc_w 355, 3) := by decide +kernel
theorem dX4_basket_27 : decode cX4_basket 27 = .ok (.invokespecial 54, 3) := by decide +kernel
theorem dX4_basket_30 : decode cX4_basket 30 = .ok (.athrow, 1) := by decide +kernel
theorem dX4_basket_31 : decode cX4_basket 31 = .ok (.aload_n 0, 1) := by decide +kernel
theorem dX4_basket_32 : decode cX4_basket 32 = .ok (.iload_n 2, 1) := by decide +kernel
theorem dX4_basket_33 : decode cX4_basket 33 = .ok (.invokevirtual 94, 3) := by decide +kernel
theorem dX4_basket_36 : decode cX4_basket 36 = .ok (.ifCond .ne 13, 3) := by decide +kernel
theorem dX4_basket_39 : decode cX4_basket 39 = .ok (.new 37, 3) := by decide +kernel
theorem dX4_basket_42 : decode cX4_basket 42 = .ok (.dup, 1) := by decide +kernel
theorem dX4_basket_43 : decode cX4_basket 43 = .ok (.ldc 97, 2) := by decide +kernel
theorem dX4_basket_45 : decode cX4_basket 45 = .ok (.invokespecial 41, 3) := by decide +kernel
theorem dX4_basket_48 : decode cX4_basket 48 = .ok (.athrow, 1) := by decide +kernel
theorem dX4_basket_49 : decode cX4_basket 49 = .ok (.aload_n 0, 1) := by decide +kernel
theorem dX4_basket_50 : decode cX4_basket 50 = .ok (.getfield 27, 3) := by decide +kernel
theorem dX4_basket_53 : decode cX4_basket 53 = .ok (.invokevirtual 60, 3) := by decide +kernel
theorem dX4_basket_56 : decode cX4_basket 56 = .ok (.bipush 6, 2) := by decide +kernel
theorem dX4_basket_58 : decode cX4_basket 58 = .ok (.if_icmp .lt 14, 3) := by decide +kernel
theorem dX4_basket_61 : decode cX4_basket 61 = .ok (.new 64, 3) := by decide +kernel
theorem dX4_basket_64 : decode cX4_basket 64 = .ok (.dup, 1) := by decide +kernel
theorem dX4_basket_65 : decode cX4_basket 65 = .ok (.ldc_w 357, 3) := by decide +kernel
theorem dX4_basket_68 : decode cX4_basket 68 = .ok (.invokespecial 68, 3) := by decide +kernel
theorem dX4_basket_71 : decode cX4_basket 71 = .ok (.athrow, 1) := by decide +kernel
theorem dX4_basket_72 : decode cX4_basket 72 = .ok (.aload_n 0, 1) := by decide +kernel
theorem dX4_basket_73 : decode cX4_basket 73 = .ok (.getfield 27, 3) := by decide +kernel
theorem dX4_basket_76 : decode cX4_basket 76 = .ok (.new 359, 3) := by decide +kernel
theorem dX4_basket_79 : decode cX4_basket 79 = .ok (.dup, 1) := by decide +kernel
theorem dX4_basket_80 : decode cX4_basket 80 = .ok (.iload_n 1, 1) := by decide +kernel
theorem dX4_basket_81 : decode cX4_basket 81 = .ok (.aload_n 0, 1) := by decide +kernel
theorem dX4_basket_82 : decode cX4_basket 82 = .ok (.getfield 21, 3) := by decide +kernel
theorem dX4_basket_85 : decode cX4_basket 85 = .ok (.iload_n 2, 1) := by decide +kernel
theorem dX4_basket_86 : decode cX4_basket 86 = .ok (.invokevirtual 99, 3) := by decide +kernel
theorem dX4_basket_89 : decode cX4_basket 89 = .ok (.checkcast 103, 3) := by decide +kernel
theorem dX4_basket_92 : decode cX4_basket 92 = .ok (.iload_n 3, 1) := by decide +kernel
theorem dX4_basket_93 : decode cX4_basket 93 = .ok (.invokespecial 361, 3) := by decide +kernel
theorem dX4_basket_96 : decode cX4_basket 96 = .ok (.invokevirtual 155, 3) := by decide +kernel
theorem dX4_basket_99 : decode cX4_basket 99 = .ok (.pop, 1) := by decide +kernel
theorem dX4_basket_100 : decode cX4_basket 100 = .ok (.aload_n 0, 1) := by decide +kernel
theorem dX4_basket_101 : decode cX4_basket 101 = .ok (.getfield 27, 3) := by decide +kernel
theorem dX4_basket_104 : decode cX4_basket 104 = .ok (.invokevirtual 60, 3) := by decide +kernel
theorem dX4_basket_107 : decode cX4_basket 107 = .ok (.iconst 1, 1) := by decide +kernel
theorem dX4_basket_108 : decode cX4_basket 108 = .ok (.isub, 1) := by decide +kernel
theorem dX4_basket_109 : decode cX4_basket 109 = .ok (.ireturn, 1) := by decide +kernel
theorem dX4_size_0 : decode cX4_size 0 = .ok (.aload_n 0, 1) := by decide +kernel
theorem dX4_size_1 : decode cX4_size 1 = .ok (.iload_n 1, 1) := by decide +kernel
theorem dX4_size_2 : decode cX4_size 2 = .ok (.invokevirtual 364, 3) := by decide +kernel
theorem dX4_size_5 : decode cX4_size 5 = .ok (.ifCond .eq 10, 3) := by decide +kernel
theorem dX4_size_8 : decode cX4_size 8 = .ok (.iload_n 2, 1) := by decide +kernel
theorem dX4_size_9 : decode cX4_size 9 = .ok (.invokestatic 34, 3) := by decide +kernel
theorem dX4_size_12 : decode cX4_size 12 = .ok (.ifCond .ne 14, 3) := by decide +kernel
theorem dX4_size_15 : decode cX4_size 15 = .ok (.new 37, 3) := by decide +kernel
theorem dX4_size_18 : decode cX4_size 18 = .ok (.dup, 1) := by decide +kernel
theorem dX4_size_19 : decode cX4_size 19 = .ok (.ldc_w 367, 3) := by decide +kernel
theorem dX4_size_22 : decode cX4_size 22 = .ok (.invokespecial 41, 3) := by decide +kernel
theorem dX4_size_25 : decode cX4_size 25 = .ok (.athrow, 1) := by decide +kernel
theorem dX4_size_26 : decode cX4_size 26 = .ok (.aload_n 0, 1) := by decide +kernel
theorem dX4_size_27 : decode cX4_size 27 = .ok (.getfield 27, 3) := by decide +kernel
theorem dX4_size_30 : decode cX4_size 30 = .ok (.iload_n 1, 1) := by decide +kernel
theorem dX4_size_31 : decode cX4_size 31 = .ok (.invokevirtual 99, 3) := by decide +kernel
theorem dX4_size_34 : decode cX4_size 34 = .ok (.checkcast 359, 3) := by decide +kernel
theorem dX4_size_37 : decode cX4_size 37 = .ok (.iload_n 2, 1) := by decide +kernel
theorem dX4_size_38 : decode cX4_size 38 = .ok (.invokestatic 369, 3) := by decide +kernel
theorem dX4_size_41 : decode cX4_size 41 = .ok (.lreturn, 1) := by decide +kernel
theorem dX4_use_0 : decode cX4_use 0 = .ok (.aload_n 0, 1) := by decide +kernel
theorem dX4_use_1 : decode cX4_use 1 = .ok (.iload_n 1, 1) := by decide +kernel
theorem dX4_use_2 : decode cX4_use 2 = .ok (.invokevirtual 364, 3) := by decide +kernel
theorem dX4_use_5 : decode cX4_use 5 = .ok (.ifCond .eq 10, 3) := by decide +kernel
theorem dX4_use_8 : decode cX4_use 8 = .ok (.iload_n 2, 1) := by decide +kernel
theorem dX4_use_9 : decode cX4_use 9 = .ok (.invokestatic 34, 3) := by decide +kernel
theorem dX4_use_12 : decode cX4_use 12 = .ok (.ifCond .ne 14, 3) := by decide +kernel
theorem dX4_use_15 : decode cX4_use 15 = .ok (.new 37, 3) := by decide +kernel
theorem dX4_use_18 : decode cX4_use 18 = .ok (.dup, 1) := by decide +kernel
theorem dX4_use_19 : decode cX4_use 19 = .ok (.ldc_w 367, 3) := by decide +kernel
theorem dX4_use_22 : decode cX4_use 22 = .ok (.invokespecial 41, 3) := by decide +kernel
theorem dX4_use_25 : decode cX4_use 25 = .ok (.athrow, 1) := by decide +kernel
theorem dX4_use_26 : decode cX4_use 26 = .ok (.iload_n 3, 1) := by decide +kernel
theorem dX4_use_27 : decode cX4_use 27 = .ok (.iconst 1, 1) := by decide +kernel
theorem dX4_use_28 : decode cX4_use 28 = .ok (.ldc 45, 2) := by decide +kernel
theorem dX4_use_30 : decode cX4_use 30 = .ok (.invokestatic 46, 3) := by decide +kernel
theorem dX4_use_33 : decode cX4_use 33 = .ok (.ifCond .ne 13, 3) := by decide +kernel
theorem dX4_use_36 : decode cX4_use 36 = .ok (.new 50, 3) := by decide +kernel
theorem dX4_use_39 : decode cX4_use 39 = .ok (.dup, 1) := by decide +kernel
theorem dX4_use_40 : decode cX4_use 40 = .ok (.ldc 52, 2) := by decide +kernel
theorem dX4_use_42 : decode cX4_use 42 = .ok (.invokespecial 54, 3) := by decide +kernel
theorem dX4_use_45 : decode cX4_use 45 = .ok (.athrow, 1) := by decide +kernel
theorem dX4_use_46 : decode cX4_use 46 = .ok (.aload_n 0, 1) := by decide +kernel
theorem dX4_use_47 : decode cX4_use 47 = .ok (.getfield 27, 3) := by decide +kernel
theorem dX4_use_50 : decode cX4_use 50 = .ok (.iload_n 1, 1) := by decide +kernel
theorem dX4_use_51 : decode cX4_use 51 = .ok (.invokevirtual 99, 3) := by decide +kernel
theorem dX4_use_54 : decode cX4_use 54 = .ok (.checkcast 359, 3) := by decide +kernel
theorem dX4_use_57 : decode cX4_use 57 = .ok (.astore 4, 2) := by decide +kernel
theorem dX4_use_59 : decode cX4_use 59 = .ok (.aload 4, 2) := by decide +kernel
theorem dX4_use_61 : decode cX4_use 61 = .ok (.getfield 373, 3) := by decide +kernel
theorem dX4_use_64 : decode cX4_use 64 = .ok (.iload_n 3, 1) := by decide +kernel
theorem dX4_use_65 : decode cX4_use 65 = .ok (.i2l, 1) := by decide +kernel
theorem dX4_use_66 : decode cX4_use 66 = .ok (.ladd, 1) := by decide +kernel
theorem dX4_use_67 : decode cX4_use 67 = .ok (.aload 4, 2) := by decide +kernel
theorem dX4_use_69 : decode cX4_use 69 = .ok (.iload_n 2, 1) := by decide +kernel
theorem dX4_use_70 : decode cX4_use 70 = .ok (.invokestatic 369, 3) := by decide +kernel
theorem dX4_use_73 : decode cX4_use 73 = .ok (.lcmp, 1) := by decide +kernel
theorem dX4_use_74 : decode cX4_use 74 = .ok (.ifCond .le 14, 3) := by decide +kernel
theorem dX4_use_77 : decode cX4_use 77 = .ok (.new 64, 3) := by decide +kernel
theorem dX4_use_80 : decode cX4_use 80 = .ok (.dup, 1) := by decide +kernel
theorem dX4_use_81 : decode cX4_use 81 = .ok (.ldc_w 377, 3) := by decide +kernel
theorem dX4_use_84 : decode cX4_use 84 = .ok (.invokespecial 68, 3) := by decide +kernel
theorem dX4_use_87 : decode cX4_use 87 = .ok (.athrow, 1) := by decide +kernel
theorem dX4_use_88 : decode cX4_use 88 = .ok (.aload 4, 2) := by decide +kernel
theorem dX4_use_90 : decode cX4_use 90 = .ok (.dup, 1) := by decide +kernel
theorem dX4_use_91 : decode cX4_use 91 = .ok (.getfield 373, 3) := by decide +kernel
theorem dX4_use_94 : decode cX4_use 94 = .ok (.iload_n 3, 1) := by decide +kernel
theorem dX4_use_95 : decode cX4_use 95 = .ok (.i2l, 1) := by decide +kernel
theorem dX4_use_96 : decode cX4_use 96 = .ok (.ladd, 1) := by decide +kernel
theorem dX4_use_97 : decode cX4_use 97 = .ok (.putfield 373, 3) := by decide +kernel
theorem dX4_use_100 : decode cX4_use 100 = .ok (.aload 4, 2) := by decide +kernel
theorem dX4_use_102 : decode cX4_use 102 = .ok (.getfield 373, 3) := by decide +kernel
theorem dX4_use_105 : decode cX4_use 105 = .ok (.lreturn, 1) := by decide +kernel
theorem dX4_refill_0 : decode cX4_refill 0 = .ok (.aload_n 0, 1) := by decide +kernel
theorem dX4_refill_1 : decode cX4_refill 1 = .ok (.iload_n 1, 1) := by decide +kernel
theorem dX4_refill_2 : decode cX4_refill 2 = .ok (.invokevirtual 364, 3) := by decide +kernel
theorem dX4_refill_5 : decode cX4_refill 5 = .ok (.ifCond .ne 14, 3) := by decide +kernel
theorem dX4_refill_8 : decode cX4_refill 8 = .ok (.new 37, 3) := by decide +kernel
theorem dX4_refill_11 : decode cX4_refill 11 = .ok (.dup, 1) := by decide +kernel
theorem dX4_refill_12 : decode cX4_refill 12 = .ok (.ldc_w 379, 3) := by decide +kernel
theorem dX4_refill_15 : decode cX4_refill 15 = .ok (.invokespecial 41, 3) := by decide +kernel
theorem dX4_refill_18 : decode cX4_refill 18 = .ok (.athrow, 1) := by decide +kernel
theorem dX4_refill_19 : decode cX4_refill 19 = .ok (.iload_n 2, 1) := by decide +kernel
theorem dX4_refill_20 : decode cX4_refill 20 = .ok (.iconst 1, 1) := by decide +kernel
theorem dX4_refill_21 : decode cX4_refill 21 = .ok (.ldc 45, 2) := by decide +kernel
theorem dX4_refill_23 : decode cX4_refill 23 = .ok (.invokestatic 46, 3) := by decide +kernel
theorem dX4_refill_26 : decode cX4_refill 26 = .ok (.ifCond .ne 13, 3) := by decide +kernel
theorem dX4_refill_29 : decode cX4_refill 29 = .ok (.new 50, 3) := by decide +kernel
theorem dX4_refill_32 : decode cX4_refill 32 = .ok (.dup, 1) := by decide +kernel
theorem dX4_refill_33 : decode cX4_refill 33 = .ok (.ldc 52, 2) := by decide +kernel
theorem dX4_refill_35 : decode cX4_refill 35 = .ok (.invokespecial 54, 3) := by decide +kernel
theorem dX4_refill_38 : decode cX4_refill 38 = .ok (.athrow, 1) := by decide +kernel
theorem dX4_refill_39 : decode cX4_refill 39 = .ok (.aload_n 0, 1) := by decide +kernel
theorem dX4_refill_40 : decode cX4_refill 40 = .ok (.getfield 27, 3) := by decide +kernel
theorem dX4_refill_43 : decode cX4_refill 43 = .ok (.iload_n 1, 1) := by decide +kernel
theorem dX4_refill_44 : decode cX4_refill 44 = .ok (.invokevirtual 99, 3) := by decide +kernel
theorem dX4_refill_47 : decode cX4_refill 47 = .ok (.checkcast 359, 3) := by decide +kernel
theorem dX4_refill_50 : decode cX4_refill 50 = .ok (.astore_n 3, 1) := by decide +kernel
theorem dX4_refill_51 : decode cX4_refill 51 = .ok (.aload_n 3, 1) := by decide +kernel
theorem dX4_refill_52 : decode cX4_refill 52 = .ok (.getfield 373, 3) := by decide +kernel
theorem dX4_refill_55 : decode cX4_refill 55 = .ok (.iload_n 2, 1) := by decide +kernel
theorem dX4_refill_56 : decode cX4_refill 56 = .ok (.i2l, 1) := by decide +kernel
theorem dX4_refill_57 : decode cX4_refill 57 = .ok (.lcmp, 1) := by decide +kernel
theorem dX4_refill_58 : decode cX4_refill 58 = .ok (.ifCond .ge 14, 3) := by decide +kernel
theorem dX4_refill_61 : decode cX4_refill 61 = .ok (.new 64, 3) := by decide +kernel
theorem dX4_refill_64 : decode cX4_refill 64 = .ok (.dup, 1) := by decide +kernel
theorem dX4_refill_65 : decode cX4_refill 65 = .ok (.ldc_w 381, 3) := by decide +kernel
theorem dX4_refill_68 : decode cX4_refill 68 = .ok (.invokespecial 68, 3) := by decide +kernel
theorem dX4_refill_71 : decode cX4_refill 71 = .ok (.athrow, 1) := by decide +kernel
theorem dX4_refill_72 : decode cX4_refill 72 = .ok (.aload_n 3, 1) := by decide +kernel
theorem dX4_refill_73 : decode cX4_refill 73 = .ok (.dup, 1) := by decide +kernel
theorem dX4_refill_74 : decode cX4_refill 74 = .ok (.getfield 373, 3) := by decide +kernel
theorem dX4_refill_77 : decode cX4_refill 77 = .ok (.iload_n 2, 1) := by decide +kernel
theorem dX4_refill_78 : decode cX4_refill 78 = .ok (.i2l, 1) := by decide +kernel
theorem dX4_refill_79 : decode cX4_refill 79 = .ok (.lsub, 1) := by decide +kernel
theorem dX4_refill_80 : decode cX4_refill 80 = .ok (.putfield 373, 3) := by decide +kernel
theorem dX4_refill_83 : decode cX4_refill 83 = .ok (.aload_n 3, 1) := by decide +kernel
theorem dX4_refill_84 : decode cX4_refill 84 = .ok (.getfield 373, 3) := by decide +kernel
theorem dX4_refill_87 : decode cX4_refill 87 = .ok (.lreturn, 1) := by decide +kernel
theorem dX4_sizeIn_0 : decode cX4_sizeIn 0 = .ok (.aload_n 0, 1) := by decide +kernel
theorem dX4_sizeIn_1 : decode cX4_sizeIn 1 = .ok (.getfield 383, 3) := by decide +kernel
theorem dX4_sizeIn_4 : decode cX4_sizeIn 4 = .ok (.getfield 113, 3) := by decide +kernel
theorem dX4_sizeIn_7 : decode cX4_sizeIn 7 = .ok (.iload_n 1, 1) := by decide +kernel
theorem dX4_sizeIn_8 : decode cX4_sizeIn 8 = .ok (.laload, 1) := by decide +kernel
theorem dX4_sizeIn_9 : decode cX4_sizeIn 9 = .ok (.lstore_n 2, 1) := by decide +kernel
theorem dX4_sizeIn_10 : decode cX4_sizeIn 10 = .ok (.lload_n 2, 1) := by decide +kernel
theorem dX4_sizeIn_11 : decode cX4_sizeIn 11 = .ok (.lconst 0, 1) := by decide +kernel
theorem dX4_sizeIn_12 : decode cX4_sizeIn 12 = .ok (.lcmp, 1) := by decide +kernel
theorem dX4_sizeIn_13 : decode cX4_sizeIn 13 = .ok (.ifCond .le 20, 3) := by decide +kernel
theorem dX4_sizeIn_16 : decode cX4_sizeIn 16 = .ok (.aload_n 0, 1) := by decide +kernel
theorem dX4_sizeIn_17 : decode cX4_sizeIn 17 = .ok (.getfield 386, 3) := by decide +kernel
theorem dX4_sizeIn_20 : decode cX4_sizeIn 20 = .ok (.i2l, 1) := by decide +kernel
theorem dX4_sizeIn_21 : decode cX4_sizeIn 21 = .ok (.lload_n 2, 1) := by decide +kernel
theorem dX4_sizeIn_22 : decode cX4_sizeIn 22 = .ok (.aload_n 0, 1) := by decide +kernel
theorem dX4_sizeIn_23 : decode cX4_sizeIn 23 = .ok (.getfield 389, 3) := by decide +kernel
theorem dX4_sizeIn_26 : decode cX4_sizeIn 26 = .ok (.invokestatic 254, 3) := by decide +kernel
theorem dX4_sizeIn_29 : decode cX4_sizeIn 29 = .ok (.ladd, 1) := by decide +kernel
theorem dX4_sizeIn_30 : decode cX4_sizeIn 30 = .ok (.goto 8, 3) := by decide +kernel
theorem dX4_sizeIn_33 : decode cX4_sizeIn 33 = .ok (.aload_n 0, 1) := by decide +kernel
theorem dX4_sizeIn_34 : decode cX4_sizeIn 34 = .ok (.getfield 386, 3) := by decide +kernel
theorem dX4_sizeIn_37 : decode cX4_sizeIn 37 = .ok (.i2l, 1) := by decide +kernel
theorem dX4_sizeIn_38 : decode cX4_sizeIn 38 = .ok (.lreturn, 1) := by decide +kernel
theorem dX4_isWithin_0 : decode cX4_isWithin 0 = .ok (.iload_n 0, 1) := by decide +kernel
theorem dX4_isWithin_1 : decode cX4_isWithin 1 = .ok (.iload_n 1, 1) := by decide +kernel
theorem dX4_isWithin_2 : decode cX4_isWithin 2 = .ok (.if_icmp .lt 12, 3) := by decide +kernel
theorem dX4_isWithin_5 : decode cX4_isWithin 5 = .ok (.iload_n 0, 1) := by decide +kernel
theorem dX4_isWithin_6 : decode cX4_isWithin 6 = .ok (.iload_n 2, 1) := by decide +kernel
theorem dX4_isWithin_7 : decode cX4_isWithin 7 = .ok (.if_icmp .gt 7, 3) := by decide +kernel
theorem dX4_isWithin_10 : decode cX4_isWithin 10 = .ok (.iconst 1, 1) := by decide +kernel
theorem dX4_isWithin_11 : decode cX4_isWithin 11 = .ok (.goto 4, 3) := by decide +kernel
theorem dX4_isWithin_14 : decode cX4_isWithin 14 = .ok (.iconst 0, 1) := by decide +kernel
theorem dX4_isWithin_15 : decode cX4_isWithin 15 = .ok (.ireturn, 1) := by decide +kernel
theorem dX4_isAccount_0 : decode cX4_isAccount 0 = .ok (.iload_n 0, 1) := by decide +kernel
theorem dX4_isAccount_1 : decode cX4_isAccount 1 = .ok (.ifCond .lt 13, 3) := by decide +kernel
theorem dX4_isAccount_4 : decode cX4_isAccount 4 = .ok (.iload_n 0, 1) := by decide +kernel
theorem dX4_isAccount_5 : decode cX4_isAccount 5 = .ok (.bipush 6, 2) := by decide +kernel
theorem dX4_isAccount_7 : decode cX4_isAccount 7 = .ok (.if_icmp .ge 7, 3) := by decide +kernel
theorem dX4_isAccount_10 : decode cX4_isAccount 10 = .ok (.iconst 1, 1) := by decide +kernel
theorem dX4_isAccount_11 : decode cX4_isAccount 11 = .ok (.goto 4, 3) := by decide +kernel
theorem dX4_isAccount_14 : decode cX4_isAccount 14 = .ok (.iconst 0, 1) := by decide +kernel
theorem dX4_isAccount_15 : decode cX4_isAccount 15 = .ok (.ireturn, 1) := by decide +kernel
theorem dX4_isQuarter_0 : decode cX4_isQuarter 0 = .ok (.iload_n 0, 1) := by decide +kernel
theorem dX4_isQuarter_1 : decode cX4_isQuarter 1 = .ok (.ifCond .lt 13, 3) := by decide +kernel
theorem dX4_isQuarter_4 : decode cX4_isQuarter 4 = .ok (.iload_n 0, 1) := by decide +kernel
theorem dX4_isQuarter_5 : decode cX4_isQuarter 5 = .ok (.bipush 20, 2) := by decide +kernel
theorem dX4_isQuarter_7 : decode cX4_isQuarter 7 = .ok (.if_icmp .ge 7, 3) := by decide +kernel
theorem dX4_isQuarter_10 : decode cX4_isQuarter 10 = .ok (.iconst 1, 1) := by decide +kernel
theorem dX4_isQuarter_11 : decode cX4_isQuarter 11 = .ok (.goto 4, 3) := by decide +kernel
theorem dX4_isQuarter_14 : decode cX4_isQuarter 14 = .ok (.iconst 0, 1) := by decide +kernel
theorem dX4_isQuarter_15 : decode cX4_isQuarter 15 = .ok (.ireturn, 1) := by decide +kernel
theorem dX4_isTerm_0 : decode cX4_isTerm 0 = .ok (.iload_n 1, 1) := by decide +kernel
theorem dX4_isTerm_1 : decode cX4_isTerm 1 = .ok (.ifCond .lt 18, 3) := by decide +kernel
theorem dX4_isTerm_4 : decode cX4_isTerm 4 = .ok (.iload_n 1, 1) := by decide +kernel
theorem dX4_isTerm_5 : decode cX4_isTerm 5 = .ok (.aload_n 0, 1) := by decide +kernel
theorem dX4_isTerm_6 : decode cX4_isTerm 6 = .ok (.getfield 21, 3) := by decide +kernel
theorem dX4_isTerm_9 : decode cX4_isTerm 9 = .ok (.invokevirtual 60, 3) := by decide +kernel
theorem dX4_isTerm_12 : decode cX4_isTerm 12 = .ok (.if_icmp .ge 7, 3) := by decide +kernel
theorem dX4_isTerm_15 : decode cX4_isTerm 15 = .ok (.iconst 1, 1) := by decide +kernel
theorem dX4_isTerm_16 : decode cX4_isTerm 16 = .ok (.goto 4, 3) := by decide +kernel
theorem dX4_isTerm_19 : decode cX4_isTerm 19 = .ok (.iconst 0, 1) := by decide +kernel
theorem dX4_isTerm_20 : decode cX4_isTerm 20 = .ok (.ireturn, 1) := by decide +kernel
theorem dX4_isTest_0 : decode cX4_isTest 0 = .ok (.iload_n 1, 1) := by decide +kernel
theorem dX4_isTest_1 : decode cX4_isTest 1 = .ok (.ifCond .lt 18, 3) := by decide +kernel
theorem dX4_isTest_4 : decode cX4_isTest 4 = .ok (.iload_n 1, 1) := by decide +kernel
theorem dX4_isTest_5 : decode cX4_isTest 5 = .ok (.aload_n 0, 1) := by decide +kernel
theorem dX4_isTest_6 : decode cX4_isTest 6 = .ok (.getfield 24, 3) := by decide +kernel
theorem dX4_isTest_9 : decode cX4_isTest 9 = .ok (.invokevirtual 60, 3) := by decide +kernel
theorem dX4_isTest_12 : decode cX4_isTest 12 = .ok (.if_icmp .ge 7, 3) := by decide +kernel
theorem dX4_isTest_15 : decode cX4_isTest 15 = .ok (.iconst 1, 1) := by decide +kernel
theorem dX4_isTest_16 : decode cX4_isTest 16 = .ok (.goto 4, 3) := by decide +kernel
theorem dX4_isTest_19 : decode cX4_isTest 19 = .ok (.iconst 0, 1) := by decide +kernel
theorem dX4_isTest_20 : decode cX4_isTest 20 = .ok (.ireturn, 1) := by decide +kernel
theorem dX4_isBasket_0 : decode cX4_isBasket 0 = .ok (.iload_n 1, 1) := by decide +kernel
theorem dX4_isBasket_1 : decode cX4_isBasket 1 = .ok (.ifCond .lt 18, 3) := by decide +kernel
theorem dX4_isBasket_4 : decode cX4_isBasket 4 = .ok (.iload_n 1, 1) := by decide +kernel
theorem dX4_isBasket_5 : decode cX4_isBasket 5 = .ok (.aload_n 0, 1) := by decide +kernel
theorem dX4_isBasket_6 : decode cX4_isBasket 6 = .ok (.getfield 27, 3) := by decide +kernel
theorem dX4_isBasket_9 : decode cX4_isBasket 9 = .ok (.invokevirtual 60, 3) := by decide +kernel
theorem dX4_isBasket_12 : decode cX4_isBasket 12 = .ok (.if_icmp .ge 7, 3) := by decide +kernel
theorem dX4_isBasket_15 : decode cX4_isBasket 15 = .ok (.iconst 1, 1) := by decide +kernel
theorem dX4_isBasket_16 : decode cX4_isBasket 16 = .ok (.goto 4, 3) := by decide +kernel
theorem dX4_isBasket_19 : decode cX4_isBasket 19 = .ok (.iconst 0, 1) := by decide +kernel
theorem dX4_isBasket_20 : decode cX4_isBasket 20 = .ok (.ireturn, 1) := by decide +kernel
end
section
theorem dX5_init_0 : decode cX5_init 0 = .ok (.aload_n 0, 1) := by decide +kernel
theorem dX5_init_1 : decode cX5_init 1 = .ok (.invokespecial 1, 3) := by decide +kernel
theorem dX5_init_4 : decode cX5_init 4 = .ok (.aload_n 0, 1) := by decide +kernel
theorem dX5_init_5 : decode cX5_init 5 = .ok (.bipush 120, 2) := by decide +kernel
theorem dX5_init_7 : decode cX5_init 7 = .ok (.newarray .int, 2) := by decide +kernel
theorem dX5_init_9 : decode cX5_init 9 = .ok (.putfield 7, 3) := by decide +kernel
theorem dX5_init_12 : decode cX5_init 12 = .ok (.aload_n 0, 1) := by decide +kernel
theorem dX5_init_13 : decode cX5_init 13 = .ok (.bipush 8, 2) := by decide +kernel
theorem dX5_init_15 : decode cX5_init 15 = .ok (.newarray .int, 2) := by decide +kernel
theorem dX5_init_17 : decode cX5_init 17 = .ok (.putfield 13, 3) := by decide +kernel
theorem dX5_init_20 : decode cX5_init 20 = .ok (.aload_n 0, 1) := by decide +kernel
theorem dX5_init_21 : decode cX5_init 21 = .ok (.bipush 8, 2) := by decide +kernel
theorem dX5_init_23 : decode cX5_init 23 = .ok (.newarray .int, 2) := by decide +kernel
theorem dX5_init_25 : decode cX5_init 25 = .ok (.putfield 16, 3) := by decide +kernel
theorem dX5_init_28 : decode cX5_init 28 = .ok (.aload_n 0, 1) := by decide +kernel
theorem dX5_init_29 : decode cX5_init 29 = .ok (.sipush 512, 3) := by decide +kernel
theorem dX5_init_32 : decode cX5_init 32 = .ok (.newarray .int, 2) := by decide +kernel
theorem dX5_init_34 : decode cX5_init 34 = .ok (.putfield 19, 3) := by decide +kernel
theorem dX5_init_37 : decode cX5_init 37 = .ok (.aload_n 0, 1) := by decide +kernel
theorem dX5_init_38 : decode cX5_init 38 = .ok (.sipush 512, 3) := by decide +kernel
theorem dX5_init_41 : decode cX5_init 41 = .ok (.newarray .int, 2) := by decide +kernel
theorem dX5_init_43 : decode cX5_init 43 = .ok (.putfield 22, 3) := by decide +kernel
theorem dX5_init_46 : decode cX5_init 46 = .ok (.aload_n 0, 1) := by decide +kernel
theorem dX5_init_47 : decode cX5_init 47 = .ok (.bipush 10, 2) := by decide +kernel
theorem dX5_init_49 : decode cX5_init 49 = .ok (.newarray .int, 2) := by decide +kernel
theorem dX5_init_51 : decode cX5_init 51 = .ok (.putfield 25, 3) := by decide +kernel
theorem dX5_init_54 : decode cX5_init 54 = .ok (.aload_n 0, 1) := by decide +kernel
theorem dX5_init_55 : decode cX5_init 55 = .ok (.sipush 200, 3) := by decide +kernel
theorem dX5_init_58 : decode cX5_init 58 = .ok (.newarray .int, 2) := by decide +kernel
theorem dX5_init_60 : decode cX5_init 60 = .ok (.putfield 28, 3) := by decide +kernel
theorem dX5_init_63 : decode cX5_init 63 = .ok (.aload_n 0, 1) := by decide +kernel
theorem dX5_init_64 : decode cX5_init 64 = .ok (.sipush 12800, 3) := by decide +kernel
theorem dX5_init_67 : decode cX5_init 67 = .ok (.newarray .int, 2) := by decide +kernel
theorem dX5_init_69 : decode cX5_init 69 = .ok (.putfield 31, 3) := by decide +kernel
theorem dX5_init_72 : decode cX5_init 72 = .ok (.aload_n 0, 1) := by decide +kernel
theorem dX5_init_73 : decode cX5_init 73 = .ok (.sipush 12800, 3) := by decide +kernel
theorem dX5_init_76 : decode cX5_init 76 = .ok (.newarray .int, 2) := by decide +kernel
theorem dX5_init_78 : decode cX5_init 78 = .ok (.putfield 34, 3) := by decide +kernel
theorem dX5_init_81 : decode cX5_init 81 = .ok (.aload_n 0, 1) := by decide +kernel
theorem dX5_init_82 : decode cX5_init 82 = .ok (.sipush 200, 3) := by decide +kernel
theorem dX5_init_85 : decode cX5_init 85 = .ok (.newarray .long, 2) := by decide +kernel
theorem dX5_init_87 : decode cX5_init 87 = .ok (.putfield 37, 3) := by decide +kernel
theorem dX5_init_90 : decode cX5_init 90 = .ok (.aload_n 0, 1) := by decide +kernel
theorem dX5_init_91 : decode cX5_init 91 = .ok (.sipush 200, 3) := by decide +kernel
theorem dX5_init_94 : decode cX5_init 94 = .ok (.newarray .long, 2) := by decide +kernel
theorem dX5_init_96 : decode cX5_init 96 = .ok (.putfield 41, 3) := by decide +kernel
theorem dX5_init_99 : decode cX5_init 99 = .ok (.aload_n 0, 1) := by decide +kernel
theorem dX5_init_100 : decode cX5_init 100 = .ok (.sipush 1000, 3) := by decide +kernel
theorem dX5_init_103 : decode cX5_init 103 = .ok (.newarray .char, 2) := by decide +kernel
theorem dX5_init_105 : decode cX5_init 105 = .ok (.putfield 44, 3) := by decide +kernel
theorem dX5_init_108 : decode cX5_init 108 = .ok (.aload_n 0, 1) := by decide +kernel
theorem dX5_init_109 : decode cX5_init 109 = .ok (.bipush 16, 2) := by decide +kernel
theorem dX5_init_111 : decode cX5_init 111 = .ok (.newarray .int, 2) := by decide +kernel
theorem dX5_init_113 : decode cX5_init 113 = .ok (.putfield 48, 3) := by decide +kernel
theorem dX5_init_116 : decode cX5_init 116 = .ok (.aload_n 0, 1) := by decide +kernel
theorem dX5_init_117 : decode cX5_init 117 = .ok (.bipush 6, 2) := by decide +kernel
theorem dX5_init_119 : decode cX5_init 119 = .ok (.newarray .int, 2) := by decide +kernel
theorem dX5_init_121 : decode cX5_init 121 = .ok (.putfield 51, 3) := by decide +kernel
theorem dX5_init_124 : decode cX5_init 124 = .ok (.aload_n 0, 1) := by decide +kernel
theorem dX5_init_125 : decode cX5_init 125 = .ok (.bipush 6, 2) := by decide +kernel
theorem dX5_init_127 : decode cX5_init 127 = .ok (.newarray .int, 2) := by decide +kernel
theorem dX5_init_129 : decode cX5_init 129 = .ok (.putfield 54, 3) := by decide +kernel
theorem dX5_init_132 : decode cX5_init 132 = .ok (.aload_n 0, 1) := by decide +kernel
theorem dX5_init_133 : decode cX5_init 133 = .ok (.bipush 120, 2) := by decide +kernel
theorem dX5_init_135 : decode cX5_init 135 = .ok (.newarray .int, 2) := by decide +kernel
theorem dX5_init_137 : decode cX5_init 137 = .ok (.putfield 57, 3) := by decide +kernel
theorem dX5_init_140 : decode cX5_init 140 = .ok (.aload_n 0, 1) := by decide +kernel
theorem dX5_init_141 : decode cX5_init 141 = .ok (.bipush 6, 2) := by decide +kernel
theorem dX5_init_143 : decode cX5_init 143 = .ok (.newarray .int, 2) := by decide +kernel
theorem dX5_init_145 : decode cX5_init 145 = .ok (.putfield 60, 3) := by decide +kernel
theorem dX5_init_148 : decode cX5_init 148 = .ok (.aload_n 0, 1) := by decide +kernel
theorem dX5_init_149 : decode cX5_init 149 = .ok (.bipush 6, 2) := by decide +kernel
theorem dX5_init_151 : decode cX5_init 151 = .ok (.newarray .int, 2) := by decide +kernel
theorem dX5_init_153 : decode cX5_init 153 = .ok (.putfield 63, 3) := by decide +kernel
theorem dX5_init_156 : decode cX5_init 156 = .ok (.aload_n 0, 1) := by decide +kernel
theorem dX5_init_157 : decode cX5_init 157 = .ok (.bipush 120, 2) := by decide +kernel
theorem dX5_init_159 : decode cX5_init 159 = .ok (.newarray .int, 2) := by decide +kernel
theorem dX5_init_161 : decode cX5_init 161 = .ok (.putfield 66, 3) := by decide +kernel
theorem dX5_init_164 : decode cX5_init 164 = .ok (.aload_n 0, 1) := by decide +kernel
theorem dX5_init_165 : decode cX5_init 165 = .ok (.bipush 120, 2) := by decide +kernel
theorem dX5_init_167 : decode cX5_init 167 = .ok (.newarray .boolean, 2) := by decide +kernel
theorem dX5_init_169 : decode cX5_init 169 = .ok (.putfield 69, 3) := by decide +kernel
theorem dX5_init_172 : decode cX5_init 172 = .ok (.aload_n 0, 1) := by decide +kernel
theorem dX5_init_173 : decode cX5_init 173 = .ok (.bipush 6, 2) := by decide +kernel
theorem dX5_init_175 : decode cX5_init 175 = .ok (.newarray .int, 2) := by decide +kernel
theorem dX5_init_177 : decode cX5_init 177 = .ok (.putfield 73, 3) := by decide +kernel
theorem dX5_init_180 : decode cX5_init 180 = .ok (.aload_n 0, 1) := by decide +kernel
theorem dX5_init_181 : decode cX5_init 181 = .ok (.bipush 6, 2) := by decide +kernel
theorem dX5_init_183 : decode cX5_init 183 = .ok (.newarray .int, 2) := by decide +kernel
theorem dX5_init_185 : decode cX5_init 185 = .ok (.putfield 76, 3) := by decide +kernel
theorem dX5_init_188 : decode cX5_init 188 = .ok (.aload_n 0, 1) := by decide +kernel
theorem dX5_init_189 : decode cX5_init 189 = .ok (.bipush 6, 2) := by decide +kernel
theorem dX5_init_191 : decode cX5_init 191 = .ok (.newarray .int, 2) := by decide +kernel
theorem dX5_init_193 : decode cX5_init 193 = .ok (.putfield 79, 3) := by decide +kernel
theorem dX5_init_196 : decode cX5_init 196 = .ok (.aload_n 0, 1) := by decide +kernel
theorem dX5_init_197 : decode cX5_init 197 = .ok (.bipush 6, 2) := by decide +kernel
theorem dX5_init_199 : decode cX5_init 199 = .ok (.newarray .long, 2) := by decide +kernel
theorem dX5_init_201 : decode cX5_init 201 = .ok (.putfield 82, 3) := by decide +kernel
theorem dX5_init_204 : decode cX5_init 204 = .ok (.iconst 0, 1) := by decide +kernel
theorem dX5_init_205 : decode cX5_init 205 = .ok (.istore_n 1, 1) := by decide +kernel
theorem dX5_init_206 : decode cX5_init 206 = .ok (.iload_n 1, 1) := by decide +kernel
theorem dX5_init_207 : decode cX5_init 207 = .ok (.bipush 120, 2) := by decide +kernel
theorem dX5_init_209 : decode cX5_init 209 = .ok (.if_icmp .ge 16, 3) := by decide +kernel
theorem dX5_init_212 : decode cX5_init 212 = .ok (.aload_n 0, 1) := by decide +kernel
theorem dX5_init_213 : decode cX5_init 213 = .ok (.getfield 57, 3) := by decide +kernel
theorem dX5_init_216 : decode cX5_init 216 = .ok (.iload_n 1, 1) := by decide +kernel
theorem dX5_init_217 : decode cX5_init 217 = .ok (.iconst (-1), 1) := by decide +kernel
theorem dX5_init_218 : decode cX5_init 218 = .ok (.iastore, 1) := by decide +kernel
theorem dX5_init_219 : decode cX5_init 219 = .ok (.iinc 1 1, 3) := by decide +kernel
theorem dX5_init_222 : decode cX5_init 222 = .ok (.goto (-16), 3) := by decide +kernel
theorem dX5_init_225 : decode cX5_init 225 = .ok (.iconst 0, 1) := by decide +kernel
theorem dX5_init_226 : decode cX5_init 226 = .ok (.istore_n 1, 1) := by decide +kernel
theorem dX5_init_227 : decode cX5_init 227 = .ok (.iload_n 1, 1) := by decide +kernel
theorem dX5_init_228 : decode cX5_init 228 = .ok (.bipush 6, 2) := by decide +kernel
theorem dX5_init_230 : decode cX5_init 230 = .ok (.if_icmp .ge 16, 3) := by decide +kernel
theorem dX5_init_233 : decode cX5_init 233 = .ok (.aload_n 0, 1) := by decide +kernel
theorem dX5_init_234 : decode cX5_init 234 = .ok (.getfield 60, 3) := by decide +kernel
theorem dX5_init_237 : decode cX5_init 237 = .ok (.iload_n 1, 1) := by decide +kernel
theorem dX5_init_238 : decode cX5_init 238 = .ok (.iconst (-1), 1) := by decide +kernel
theorem dX5_init_239 : decode cX5_init 239 = .ok (.iastore, 1) := by decide +kernel
theorem dX5_init_240 : decode cX5_init 240 = .ok (.iinc 1 1, 3) := by decide +kernel
theorem dX5_init_243 : decode cX5_init 243 = .ok (.goto (-16), 3) := by decide +kernel
theorem dX5_init_246 : decode cX5_init 246 = .ok (.return_, 1) := by decide +kernel
theorem dX5_thrown_0 : decode cX5_thrown 0 = .ok (.aload_n 0, 1) := by decide +kernel
theorem dX5_thrown_1 : decode cX5_thrown 1 = .ok (.getfield 85, 3) := by decide +kernel
theorem dX5_thrown_4 : decode cX5_thrown 4 = .ok (.ireturn, 1) := by decide +kernel
theorem dX5_isIn_0 : decode cX5_isIn 0 = .ok (.iload_n 0, 1) := by decide +kernel
theorem dX5_isIn_1 : decode cX5_isIn 1 = .ok (.iload_n 1, 1) := by decide +kernel
theorem dX5_isIn_2 : decode cX5_isIn 2 = .ok (.if_icmp .lt 12, 3) := by decide +kernel
theorem dX5_isIn_5 : decode cX5_isIn 5 = .ok (.iload_n 0, 1) := by decide +kernel
theorem dX5_isIn_6 : decode cX5_isIn 6 = .ok (.iload_n 2, 1) := by decide +kernel
theorem dX5_isIn_7 : decode cX5_isIn 7 = .ok (.if_icmp .gt 7, 3) := by decide +kernel
theorem dX5_isIn_10 : decode cX5_isIn 10 = .ok (.iconst 1, 1) := by decide +kernel
theorem dX5_isIn_11 : decode cX5_isIn 11 = .ok (.goto 4, 3) := by decide +kernel
theorem dX5_isIn_14 : decode cX5_isIn 14 = .ok (.iconst 0, 1) := by decide +kernel
theorem dX5_isIn_15 : decode cX5_isIn 15 = .ok (.ireturn, 1) := by decide +kernel
theorem dX5_isQuarter_0 : decode cX5_isQuarter 0 = .ok (.iload_n 0, 1) := by decide +kernel
theorem dX5_isQuarter_1 : decode cX5_isQuarter 1 = .ok (.iconst 0, 1) := by decide +kernel
theorem dX5_isQuarter_2 : decode cX5_isQuarter 2 = .ok (.bipush 19, 2) := by decide +kernel
theorem dX5_isQuarter_4 : decode cX5_isQuarter 4 = .ok (.invokestatic 89, 3) := by decide +kernel
theorem dX5_isQuarter_7 : decode cX5_isQuarter 7 = .ok (.ireturn, 1) := by decide +kernel
theorem dX5_isAccount_0 : decode cX5_isAccount 0 = .ok (.iload_n 0, 1) := by decide +kernel
theorem dX5_isAccount_1 : decode cX5_isAccount 1 = .ok (.iconst 0, 1) := by decide +kernel
theorem dX5_isAccount_2 : decode cX5_isAccount 2 = .ok (.iconst 5, 1) := by decide +kernel
theorem dX5_isAccount_3 : decode cX5_isAccount 3 = .ok (.invokestatic 89, 3) := by decide +kernel
theorem dX5_isAccount_6 : decode cX5_isAccount 6 = .ok (.ireturn, 1) := by decide +kernel
theorem dX5_isTerm_0 : decode cX5_isTerm 0 = .ok (.iload_n 1, 1) := by decide +kernel
theorem dX5_isTerm_1 : decode cX5_isTerm 1 = .ok (.iconst 0, 1) := by decide +kernel
theorem dX5_isTerm_2 : decode cX5_isTerm 2 = .ok (.aload_n 0, 1) := by decide +kernel
theorem dX5_isTerm_3 : decode cX5_isTerm 3 = .ok (.getfield 93, 3) := by decide +kernel
theorem dX5_isTerm_6 : decode cX5_isTerm 6 = .ok (.iconst 1, 1) := by decide +kernel
theorem dX5_isTerm_7 : decode cX5_isTerm 7 = .ok (.isub, 1) := by decide +kernel
theorem dX5_isTerm_8 : decode cX5_isTerm 8 = .ok (.invokestatic 89, 3) := by decide +kernel
theorem dX5_isTerm_11 : decode cX5_isTerm 11 = .ok (.ireturn, 1) := by decide +kernel
theorem dX5_down_0 : decode cX5_down 0 = .ok (.lload_n 0, 1) := by decide +kernel
theorem dX5_down_1 : decode cX5_down 1 = .ok (.iload_n 2, 1) := by decide +kernel
theorem dX5_down_2 : decode cX5_down 2 = .ok (.i2l, 1) := by decide +kernel
theorem dX5_down_3 : decode cX5_down 3 = .ok (.ldiv, 1) := by decide +kernel
theorem dX5_down_4 : decode cX5_down 4 = .ok (.lstore_n 3, 1) := by decide +kernel
theorem dX5_down_5 : decode cX5_down 5 = .ok (.lload_n 0, 1) := by decide +kernel
theorem dX5_down_6 : decode cX5_down 6 = .ok (.iload_n 2, 1) := by decide +kernel
theorem dX5_down_7 : decode cX5_down 7 = .ok (.i2l, 1) := by decide +kernel
theorem dX5_down_8 : decode cX5_down 8 = .ok (.lrem, 1) := by decide +kernel
theorem dX5_down_9 : decode cX5_down 9 = .ok (.lconst 0, 1) := by decide +kernel
theorem dX5_down_10 : decode cX5_down 10 = .ok (.lcmp, 1) := by decide +kernel
theorem dX5_down_11 : decode cX5_down 11 = .ok (.ifCond .ge 9, 3) := by decide +kernel
theorem dX5_down_14 : decode cX5_down 14 = .ok (.lload_n 3, 1) := by decide +kernel
theorem dX5_down_15 : decode cX5_down 15 = .ok (.lconst 1, 1) := by decide +kernel
theorem dX5_down_16 : decode cX5_down 16 = .ok (.lsub, 1) := by decide +kernel
theorem dX5_down_17 : decode cX5_down 17 = .ok (.goto 4, 3) := by decide +kernel
theorem dX5_down_20 : decode cX5_down 20 = .ok (.lload_n 3, 1) := by decide +kernel
theorem dX5_down_21 : decode cX5_down 21 = .ok (.lreturn, 1) := by decide +kernel
theorem dX5_amount_0 : decode cX5_amount 0 = .ok (.iload_n 1, 1) := by decide +kernel
theorem dX5_amount_1 : decode cX5_amount 1 = .ok (.invokestatic 96, 3) := by decide +kernel
theorem dX5_amount_4 : decode cX5_amount 4 = .ok (.ifCond .eq 14, 3) := by decide +kernel
theorem dX5_amount_7 : decode cX5_amount 7 = .ok (.iload_n 2, 1) := by decide +kernel
theorem dX5_amount_8 : decode cX5_amount 8 = .ok (.invokestatic 100, 3) := by decide +kernel
theorem dX5_amount_11 : decode cX5_amount 11 = .ok (.ifCond .eq 7, 3) := by decide +kernel
theorem dX5_amount_14 : decode cX5_amount 14 = .ok (.iconst 1, 1) := by decide +kernel
theorem dX5_amount_15 : decode cX5_amount 15 = .ok (.goto 4, 3) := by decide +kernel
theorem dX5_amount_18 : decode cX5_amount 18 = .ok (.iconst 0, 1) := by decide +kernel
theorem dX5_amount_19 : decode cX5_amount 19 = .ok (.istore 4, 2) := by decide +kernel
theorem dX5_amount_21 : decode cX5_amount 21 = .ok (.aload_n 0, 1) := by decide +kernel
theorem dX5_amount_22 : decode cX5_amount 22 = .ok (.iload 4, 2) := by decide +kernel
theorem dX5_amount_24 : decode cX5_amount 24 = .ok (.ifCond .ne 7, 3) := by decide +kernel
theorem dX5_amount_27 : decode cX5_amount 27 = .ok (.iconst 1, 1) := by decide +kernel
theorem dX5_amount_28 : decode cX5_amount 28 = .ok (.goto 19, 3) := by decide +kernel
theorem dX5_amount_31 : decode cX5_amount 31 = .ok (.iload_n 3, 1) := by decide +kernel
theorem dX5_amount_32 : decode cX5_amount 32 = .ok (.ldc 103, 2) := by decide +kernel
theorem dX5_amount_34 : decode cX5_amount 34 = .ok (.ldc 104, 2) := by decide +kernel
theorem dX5_amount_36 : decode cX5_amount 36 = .ok (.invokestatic 89, 3) := by decide +kernel
theorem dX5_amount_39 : decode cX5_amount 39 = .ok (.ifCond .eq 7, 3) := by decide +kernel
theorem dX5_amount_42 : decode cX5_amount 42 = .ok (.iconst 0, 1) := by decide +kernel
theorem dX5_amount_43 : decode cX5_amount 43 = .ok (.goto 4, 3) := by decide +kernel
theorem dX5_amount_46 : decode cX5_amount 46 = .ok (.iconst 2, 1) := by decide +kernel
theorem dX5_amount_47 : decode cX5_amount 47 = .ok (.putfield 85, 3) := by decide +kernel
theorem dX5_amount_50 : decode cX5_amount 50 = .ok (.aload_n 0, 1) := by decide +kernel
theorem dX5_amount_51 : decode cX5_amount 51 = .ok (.getfield 85, 3) := by decide +kernel
theorem dX5_amount_54 : decode cX5_amount 54 = .ok (.ifCond .le 5, 3) := by decide +kernel
theorem dX5_amount_57 : decode cX5_amount 57 = .ok (.iconst 0, 1) := by decide +kernel
theorem dX5_amount_58 : decode cX5_amount 58 = .ok (.ireturn, 1) := by decide +kernel
theorem dX5_amount_59 : decode cX5_amount 59 = .ok (.aload_n 0, 1) := by decide +kernel
theorem dX5_amount_60 : decode cX5_amount 60 = .ok (.getfield 7, 3) := by decide +kernel
theorem dX5_amount_63 : decode cX5_amount 63 = .ok (.bipush 20, 2) := by decide +kernel
theorem dX5_amount_65 : decode cX5_amount 65 = .ok (.iload_n 1, 1) := by decide +kernel
theorem dX5_amount_66 : decode cX5_amount 66 = .ok (.imul, 1) := by decide +kernel
theorem dX5_amount_67 : decode cX5_amount 67 = .ok (.iload_n 2, 1) := by decide +kernel
theorem dX5_amount_68 : decode cX5_amount 68 = .ok (.iadd, 1) := by decide +kernel
theorem dX5_amount_69 : decode cX5_amount 69 = .ok (.iaload, 1) := by decide +kernel
theorem dX5_amount_70 : decode cX5_amount 70 = .ok (.istore 5, 2) := by decide +kernel
theorem dX5_amount_72 : decode cX5_amount 72 = .ok (.aload_n 0, 1) := by decide +kernel
theorem dX5_amount_73 : decode cX5_amount 73 = .ok (.getfield 7, 3) := by decide +kernel
theorem dX5_amount_76 : decode cX5_amount 76 = .ok (.bipush 20, 2) := by decide +kernel
theorem dX5_amount_78 : decode cX5_amount 78 = .ok (.iload_n 1, 1) := by decide +kernel
theorem dX5_amount_79 : decode cX5_amount 79 = .ok (.imul, 1) := by decide +kernel
theorem dX5_amount_80 : decode cX5_amount 80 = .ok (.iload_n 2, 1) := by decide +kernel
theorem dX5_amount_81 : decode cX5_amount 81 = .ok (.iadd, 1) := by decide +kernel
theorem dX5_amount_82 : decode cX5_amount 82 = .ok (.iload_n 3, 1) := by decide +kernel
theorem dX5_amount_83 : decode cX5_amount 83 = .ok (.iastore, 1) := by decide +kernel
theorem dX5_amount_84 : decode cX5_amount 84 = .ok (.iload 5, 2) := by decide +kernel
theorem dX5_amount_86 : decode cX5_amount 86 = .ok (.ireturn, 1) := by decide +kernel
theorem dX5_adds_0 : decode cX5_adds 0 = .ok (.aload_n 0, 1) := by decide +kernel
theorem dX5_adds_1 : decode cX5_adds 1 = .ok (.getfield 19, 3) := by decide +kernel
theorem dX5_adds_4 : decode cX5_adds 4 = .ok (.bipush 64, 2) := by decide +kernel
theorem dX5_adds_6 : decode cX5_adds 6 = .ok (.iload_n 1, 1) := by decide +kernel
theorem dX5_adds_7 : decode cX5_adds 7 = .ok (.imul, 1) := by decide +kernel
theorem dX5_adds_8 : decode cX5_adds 8 = .ok (.aload_n 0, 1) := by decide +kernel
theorem dX5_adds_9 : decode cX5_adds 9 = .ok (.getfield 13, 3) := by decide +kernel
theorem dX5_adds_12 : decode cX5_adds 12 = .ok (.iload_n 1, 1) := by decide +kernel
theorem dX5_adds_13 : decode cX5_adds 13 = .ok (.iaload, 1) := by decide +kernel
theorem dX5_adds_14 : decode cX5_adds 14 = .ok (.iadd, 1) := by decide +kernel
theorem dX5_adds_15 : decode cX5_adds 15 = .ok (.iload_n 2, 1) := by decide +kernel
theorem dX5_adds_16 : decode cX5_adds 16 = .ok (.iastore, 1) := by decide +kernel
theorem dX5_adds_17 : decode cX5_adds 17 = .ok (.aload_n 0, 1) := by decide +kernel
theorem dX5_adds_18 : decode cX5_adds 18 = .ok (.getfield 22, 3) := by decide +kernel
theorem dX5_adds_21 : decode cX5_adds 21 = .ok (.bipush 64, 2) := by decide +kernel
theorem dX5_adds_23 : decode cX5_adds 23 = .ok (.iload_n 1, 1) := by decide +kernel
theorem dX5_adds_24 : decode cX5_adds 24 = .ok (.imul, 1) := by decide +kernel
theorem dX5_adds_25 : decode cX5_adds 25 = .ok (.aload_n 0, 1) := by decide +kernel
theorem dX5_adds_26 : decode cX5_adds 26 = .ok (.getfield 13, 3) := by decide +kernel
theorem dX5_adds_29 : decode cX5_adds 29 = .ok (.iload_n 1, 1) := by decide +kernel
theorem dX5_adds_30 : decode cX5_adds 30 = .ok (.iaload, 1) := by decide +kernel
theorem dX5_adds_31 : decode cX5_adds 31 = .ok (.iadd, 1) := by decide +kernel
theorem dX5_adds_32 : decode cX5_adds 32 = .ok (.iload_n 3, 1) := by decide +kernel
theorem dX5_adds_33 : decode cX5_adds 33 = .ok (.iastore, 1) := by decide +kernel
theorem dX5_adds_34 : decode cX5_adds 34 = .ok (.aload_n 0, 1) := by decide +kernel
theorem dX5_adds_35 : decode cX5_adds 35 = .ok (.getfield 13, 3) := by decide +kernel
theorem dX5_adds_38 : decode cX5_adds 38 = .ok (.iload_n 1, 1) := by decide +kernel
theorem dX5_adds_39 : decode cX5_adds 39 = .ok (.dup2, 1) := by decide +kernel
theorem dX5_adds_40 : decode cX5_adds 40 = .ok (.iaload, 1) := by decide +kernel
theorem dX5_adds_41 : decode cX5_adds 41 = .ok (.iconst 1, 1) := by decide +kernel
theorem dX5_adds_42 : decode cX5_adds 42 = .ok (.iadd, 1) := by decide +kernel
theorem dX5_adds_43 : decode cX5_adds 43 = .ok (.iastore, 1) := by decide +kernel
theorem dX5_adds_44 : decode cX5_adds 44 = .ok (.return_, 1) := by decide +kernel
theorem dX5_pushes_0 : decode cX5_pushes 0 = .ok (.aload_n 0, 1) := by decide +kernel
theorem dX5_pushes_1 : decode cX5_pushes 1 = .ok (.getfield 13, 3) := by decide +kernel
theorem dX5_pushes_4 : decode cX5_pushes 4 = .ok (.aload_n 0, 1) := by decide +kernel
theorem dX5_pushes_5 : decode cX5_pushes 5 = .ok (.getfield 105, 3) := by decide +kernel
theorem dX5_pushes_8 : decode cX5_pushes 8 = .ok (.iconst 0, 1) := by decide +kernel
theorem dX5_pushes_9 : decode cX5_pushes 9 = .ok (.iastore, 1) := by decide +kernel
theorem dX5_pushes_10 : decode cX5_pushes 10 = .ok (.aload_n 0, 1) := by decide +kernel
theorem dX5_pushes_11 : decode cX5_pushes 11 = .ok (.getfield 16, 3) := by decide +kernel
theorem dX5_pushes_14 : decode cX5_pushes 14 = .ok (.aload_n 0, 1) := by decide +kernel
theorem dX5_pushes_15 : decode cX5_pushes 15 = .ok (.getfield 105, 3) := by decide +kernel
theorem dX5_pushes_18 : decode cX5_pushes 18 = .ok (.iload_n 3, 1) := by decide +kernel
theorem dX5_pushes_19 : decode cX5_pushes 19 = .ok (.iastore, 1) := by decide +kernel
theorem dX5_pushes_20 : decode cX5_pushes 20 = .ok (.aload_n 0, 1) := by decide +kernel
theorem dX5_pushes_21 : decode cX5_pushes 21 = .ok (.aload_n 0, 1) := by decide +kernel
theorem dX5_pushes_22 : decode cX5_pushes 22 = .ok (.getfield 105, 3) := by decide +kernel
theorem dX5_pushes_25 : decode cX5_pushes 25 = .ok (.iload_n 1, 1) := by decide +kernel
theorem dX5_pushes_26 : decode cX5_pushes 26 = .ok (.iload_n 2, 1) := by decide +kernel
theorem dX5_pushes_27 : decode cX5_pushes 27 = .ok (.invokevirtual 108, 3) := by decide +kernel
theorem dX5_pushes_30 : decode cX5_pushes 30 = .ok (.aload_n 0, 1) := by decide +kernel
theorem dX5_pushes_31 : decode cX5_pushes 31 = .ok (.dup, 1) := by decide +kernel
theorem dX5_pushes_32 : decode cX5_pushes 32 = .ok (.getfield 105, 3) := by decide +kernel
theorem dX5_pushes_35 : decode cX5_pushes 35 = .ok (.iconst 1, 1) := by decide +kernel
theorem dX5_pushes_36 : decode cX5_pushes 36 = .ok (.iadd, 1) := by decide +kernel
theorem dX5_pushes_37 : decode cX5_pushes 37 = .ok (.putfield 105, 3) := by decide +kernel
theorem dX5_pushes_40 : decode cX5_pushes 40 = .ok (.aload_n 0, 1) := by decide +kernel
theorem dX5_pushes_41 : decode cX5_pushes 41 = .ok (.getfield 105, 3) := by decide +kernel
theorem dX5_pushes_44 : decode cX5_pushes 44 = .ok (.ireturn, 1) := by decide +kernel
theorem dX5_account_0 : decode cX5_account 0 = .ok (.aload_n 0, 1) := by decide +kernel
theorem dX5_account_1 : decode cX5_account 1 = .ok (.iload_n 1, 1) := by decide +kernel
theorem dX5_account_2 : decode cX5_account 2 = .ok (.invokestatic 96, 3) := by decide +kernel
theorem dX5_account_5 : decode cX5_account 5 = .ok (.ifCond .ne 7, 3) := by decide +kernel
theorem dX5_account_8 : decode cX5_account 8 = .ok (.iconst 1, 1) := by decide +kernel
theorem dX5_account_9 : decode cX5_account 9 = .ok (.goto 17, 3) := by decide +kernel
theorem dX5_account_12 : decode cX5_account 12 = .ok (.aload_n 0, 1) := by decide +kernel
theorem dX5_account_13 : decode cX5_account 13 = .ok (.getfield 105, 3) := by decide +kernel
theorem dX5_account_16 : decode cX5_account 16 = .ok (.bipush 8, 2) := by decide +kernel
theorem dX5_account_18 : decode cX5_account 18 = .ok (.if_icmp .ne 7, 3) := by decide +kernel
theorem dX5_account_21 : decode cX5_account 21 = .ok (.iconst 2, 1) := by decide +kernel
theorem dX5_account_22 : decode cX5_account 22 = .ok (.goto 4, 3) := by decide +kernel
theorem dX5_account_25 : decode cX5_account 25 = .ok (.iconst 0, 1) := by decide +kernel
theorem dX5_account_26 : decode cX5_account 26 = .ok (.putfield 85, 3) := by decide +kernel
theorem dX5_account_29 : decode cX5_account 29 = .ok (.aload_n 0, 1) := by decide +kernel
theorem dX5_account_30 : decode cX5_account 30 = .ok (.getfield 85, 3) := by decide +kernel
theorem dX5_account_33 : decode cX5_account 33 = .ok (.ifCond .le 7, 3) := by decide +kernel
theorem dX5_account_36 : decode cX5_account 36 = .ok (.iconst 0, 1) := by decide +kernel
theorem dX5_account_37 : decode cX5_account 37 = .ok (.goto 10, 3) := by decide +kernel
theorem dX5_account_40 : decode cX5_account 40 = .ok (.aload_n 0, 1) := by decide +kernel
theorem dX5_account_41 : decode cX5_account 41 = .ok (.iconst 4, 1) := by decide +kernel
theorem dX5_account_42 : decode cX5_account 42 = .ok (.iload_n 1, 1) := by decide +kernel
theorem dX5_account_43 : decode cX5_account 43 = .ok (.iconst 1, 1) := by decide +kernel
theorem dX5_account_44 : decode cX5_account 44 = .ok (.invokevirtual 112, 3) := by decide +kernel
theorem dX5_account_47 : decode cX5_account 47 = .ok (.ireturn, 1) := by decide +kernel
theorem dX5_number_0 : decode cX5_number 0 = .ok (.aload_n 0, 1) := by decide +kernel
theorem dX5_number_1 : decode cX5_number 1 = .ok (.iload_n 1, 1) := by decide +kernel
theorem dX5_number_2 : decode cX5_number 2 = .ok (.iconst 0, 1) := by decide +kernel
theorem dX5_number_3 : decode cX5_number 3 = .ok (.ldc 104, 2) := by decide +kernel
theorem dX5_number_5 : decode cX5_number 5 = .ok (.invokestatic 89, 3) := by decide +kernel
theorem dX5_number_8 : decode cX5_number 8 = .ok (.ifCond .ne 7, 3) := by decide +kernel
theorem dX5_number_11 : decode cX5_number 11 = .ok (.iconst 1, 1) := by decide +kernel
theorem dX5_number_12 : decode cX5_number 12 = .ok (.goto 17, 3) := by decide +kernel
theorem dX5_number_15 : decode cX5_number 15 = .ok (.aload_n 0, 1) := by decide +kernel
theorem dX5_number_16 : decode cX5_number 16 = .ok (.getfield 105, 3) := by decide +kernel
theorem dX5_number_19 : decode cX5_number 19 = .ok (.bipush 8, 2) := by decide +kernel
theorem dX5_number_21 : decode cX5_number 21 = .ok (.if_icmp .ne 7, 3) := by decide +kernel
theorem dX5_number_24 : decode cX5_number 24 = .ok (.iconst 2, 1) := by decide +kernel
theorem dX5_number_25 : decode cX5_number 25 = .ok (.goto 4, 3) := by decide +kernel
theorem dX5_number_28 : decode cX5_number 28 = .ok (.iconst 0, 1) := by decide +kernel
theorem dX5_number_29 : decode cX5_number 29 = .ok (.putfield 85, 3) := by decide +kernel
theorem dX5_number_32 : decode cX5_number 32 = .ok (.aload_n 0, 1) := by decide +kernel
theorem dX5_number_33 : decode cX5_number 33 = .ok (.getfield 85, 3) := by decide +kernel
theorem dX5_number_36 : decode cX5_number 36 = .ok (.ifCond .le 7, 3) := by decide +kernel
theorem dX5_number_39 : decode cX5_number 39 = .ok (.iconst 0, 1) := by decide +kernel
theorem dX5_number_40 : decode cX5_number 40 = .ok (.goto 10, 3) := by decide +kernel
theorem dX5_number_43 : decode cX5_number 43 = .ok (.aload_n 0, 1) := by decide +kernel
theorem dX5_number_44 : decode cX5_number 44 = .ok (.iconst 5, 1) := by decide +kernel
theorem dX5_number_45 : decode cX5_number 45 = .ok (.iload_n 1, 1) := by decide +kernel
theorem dX5_number_46 : decode cX5_number 46 = .ok (.iconst 1, 1) := by decide +kernel
theorem dX5_number_47 : decode cX5_number 47 = .ok (.invokevirtual 112, 3) := by decide +kernel
theorem dX5_number_50 : decode cX5_number 50 = .ok (.ireturn, 1) := by decide +kernel
theorem dX5_term_0 : decode cX5_term 0 = .ok (.aload_n 0, 1) := by decide +kernel
theorem dX5_term_1 : decode cX5_term 1 = .ok (.aload_n 0, 1) := by decide +kernel
theorem dX5_term_2 : decode cX5_term 2 = .ok (.iload_n 1, 1) := by decide +kernel
theorem dX5_term_3 : decode cX5_term 3 = .ok (.invokevirtual 116, 3) := by decide +kernel
theorem dX5_term_6 : decode cX5_term 6 = .ok (.ifCond .ne 7, 3) := by decide +kernel
theorem dX5_term_9 : decode cX5_term 9 = .ok (.iconst 1, 1) := by decide +kernel
theorem dX5_term_10 : decode cX5_term 10 = .ok (.goto 4, 3) := by decide +kernel
theorem dX5_term_13 : decode cX5_term 13 = .ok (.iconst 0, 1) := by decide +kernel
theorem dX5_term_14 : decode cX5_term 14 = .ok (.putfield 85, 3) := by decide +kernel
theorem dX5_term_17 : decode cX5_term 17 = .ok (.aload_n 0, 1) := by decide +kernel
theorem dX5_term_18 : decode cX5_term 18 = .ok (.getfield 85, 3) := by decide +kernel
theorem dX5_term_21 : decode cX5_term 21 = .ok (.ifCond .le 5, 3) := by decide +kernel
theorem dX5_term_24 : decode cX5_term 24 = .ok (.iconst 0, 1) := by decide +kernel
theorem dX5_term_25 : decode cX5_term 25 = .ok (.ireturn, 1) := by decide +kernel
theorem dX5_term_26 : decode cX5_term 26 = .ok (.aload_n 0, 1) := by decide +kernel
theorem dX5_term_27 : decode cX5_term 27 = .ok (.aload_n 0, 1) := by decide +kernel
theorem dX5_term_28 : decode cX5_term 28 = .ok (.getfield 105, 3) := by decide +kernel
theorem dX5_term_31 : decode cX5_term 31 = .ok (.bipush 8, 2) := by decide +kernel
theorem dX5_term_33 : decode cX5_term 33 = .ok (.if_icmp .eq 14, 3) := by decide +kernel
theorem dX5_term_36 : decode cX5_term 36 = .ok (.aload_n 0, 1) := by decide +kernel
theorem dX5_term_37 : decode cX5_term 37 = .ok (.getfield 25, 3) := by decide +kernel
theorem dX5_term_40 : decode cX5_term 40 = .ok (.iload_n 1, 1) := by decide +kernel
theorem dX5_term_41 : decode cX5_term 41 = .ok (.iaload, 1) := by decide +kernel
theorem dX5_term_42 : decode cX5_term 42 = .ok (.bipush 6, 2) := by decide +kernel
theorem dX5_term_44 : decode cX5_term 44 = .ok (.if_icmp .ne 7, 3) := by decide +kernel
theorem dX5_term_47 : decode cX5_term 47 = .ok (.iconst 2, 1) := by decide +kernel
theorem dX5_term_48 : decode cX5_term 48 = .ok (.goto 4, 3) := by decide +kernel
theorem dX5_term_51 : decode cX5_term 51 = .ok (.iconst 0, 1) := by decide +kernel
theorem dX5_term_52 : decode cX5_term 52 = .ok (.putfield 85, 3) := by decide +kernel
theorem dX5_term_55 : decode cX5_term 55 = .ok (.aload_n 0, 1) := by decide +kernel
theorem dX5_term_56 : decode cX5_term 56 = .ok (.getfield 85, 3) := by decide +kernel
theorem dX5_term_59 : decode cX5_term 59 = .ok (.ifCond .le 7, 3) := by decide +kernel
theorem dX5_term_62 : decode cX5_term 62 = .ok (.iconst 0, 1) := by decide +kernel
theorem dX5_term_63 : decode cX5_term 63 = .ok (.goto 18, 3) := by decide +kernel
theorem dX5_term_66 : decode cX5_term 66 = .ok (.aload_n 0, 1) := by decide +kernel
theorem dX5_term_67 : decode cX5_term 67 = .ok (.bipush 6, 2) := by decide +kernel
theorem dX5_term_69 : decode cX5_term 69 = .ok (.iload_n 1, 1) := by decide +kernel
theorem dX5_term_70 : decode cX5_term 70 = .ok (.aload_n 0, 1) := by decide +kernel
theorem dX5_term_71 : decode cX5_term 71 = .ok (.getfield 25, 3) := by decide +kernel
theorem dX5_term_74 : decode cX5_term 74 = .ok (.iload_n 1, 1) := by decide +kernel
theorem dX5_term_75 : decode cX5_term 75 = .ok (.iaload, 1) := by decide +kernel
theorem dX5_term_76 : decode cX5_term 76 = .ok (.iconst 1, 1) := by decide +kernel
theorem dX5_term_77 : decode cX5_term 77 = .ok (.iadd, 1) := by decide +kernel
theorem dX5_term_78 : decode cX5_term 78 = .ok (.invokevirtual 112, 3) := by decide +kernel
theorem dX5_term_81 : decode cX5_term 81 = .ok (.ireturn, 1) := by decide +kernel
theorem dX5_join_0 : decode cX5_join 0 = .ok (.aload_n 0, 1) := by decide +kernel
theorem dX5_join_1 : decode cX5_join 1 = .ok (.iload_n 1, 1) := by decide +kernel
theorem dX5_join_2 : decode cX5_join 2 = .ok (.iconst 0, 1) := by decide +kernel
theorem dX5_join_3 : decode cX5_join 3 = .ok (.iconst 3, 1) := by decide +kernel
theorem dX5_join_4 : decode cX5_join 4 = .ok (.invokestatic 89, 3) := by decide +kernel
theorem dX5_join_7 : decode cX5_join 7 = .ok (.ifCond .eq 7, 3) := by decide +kernel
theorem dX5_join_10 : decode cX5_join 10 = .ok (.iconst 0, 1) := by decide +kernel
theorem dX5_join_11 : decode cX5_join 11 = .ok (.goto 4, 3) := by decide +kernel
theorem dX5_join_14 : decode cX5_join 14 = .ok (.iconst 1, 1) := by decide +kernel
theorem dX5_join_15 : decode cX5_join 15 = .ok (.putfield 85, 3) := by decide +kernel
theorem dX5_join_18 : decode cX5_join 18 = .ok (.aload_n 0, 1) := by decide +kernel
theorem dX5_join_19 : decode cX5_join 19 = .ok (.getfield 85, 3) := by decide +kernel
theorem dX5_join_22 : decode cX5_join 22 = .ok (.ifCond .le 5, 3) := by decide +kernel
theorem dX5_join_25 : decode cX5_join 25 = .ok (.iconst 0, 1) := by decide +kernel
theorem dX5_join_26 : decode cX5_join 26 = .ok (.ireturn, 1) := by decide +kernel
theorem dX5_join_27 : decode cX5_join 27 = .ok (.aload_n 0, 1) := by decide +kernel
theorem dX5_join_28 : decode cX5_join 28 = .ok (.aload_n 0, 1) := by decide +kernel
theorem dX5_join_29 : decode cX5_join 29 = .ok (.getfield 105, 3) := by decide +kernel
theorem dX5_join_32 : decode cX5_join 32 = .ok (.iconst 2, 1) := by decide +kernel
theorem dX5_join_33 : decode cX5_join 33 = .ok (.if_icmp .ge 7, 3) := by decide +kernel
theorem dX5_join_36 : decode cX5_join 36 = .ok (.iconst 2, 1) := by decide +kernel
theorem dX5_join_37 : decode cX5_join 37 = .ok (.goto 4, 3) := by decide +kernel
theorem dX5_join_40 : decode cX5_join 40 = .ok (.iconst 0, 1) := by decide +kernel
theorem dX5_join_41 : decode cX5_join 41 = .ok (.putfield 85, 3) := by decide +kernel
theorem dX5_join_44 : decode cX5_join 44 = .ok (.aload_n 0, 1) := by decide +kernel
theorem dX5_join_45 : decode cX5_join 45 = .ok (.getfield 85, 3) := by decide +kernel
theorem dX5_join_48 : decode cX5_join 48 = .ok (.ifCond .le 5, 3) := by decide +kernel
theorem dX5_join_51 : decode cX5_join 51 = .ok (.iconst 0, 1) := by decide +kernel
theorem dX5_join_52 : decode cX5_join 52 = .ok (.ireturn, 1) := by decide +kernel
theorem dX5_join_53 : decode cX5_join 53 = .ok (.aload_n 0, 1) := by decide +kernel
theorem dX5_join_54 : decode cX5_join 54 = .ok (.getfield 105, 3) := by decide +kernel
theorem dX5_join_57 : decode cX5_join 57 = .ok (.iconst 2, 1) := by decide +kernel
theorem dX5_join_58 : decode cX5_join 58 = .ok (.isub, 1) := by decide +kernel
theorem dX5_join_59 : decode cX5_join 59 = .ok (.istore_n 2, 1) := by decide +kernel
theorem dX5_join_60 : decode cX5_join 60 = .ok (.aload_n 0, 1) := by decide +kernel
theorem dX5_join_61 : decode cX5_join 61 = .ok (.getfield 105, 3) := by decide +kernel
theorem dX5_join_64 : decode cX5_join 64 = .ok (.iconst 1, 1) := by decide +kernel
theorem dX5_join_65 : decode cX5_join 65 = .ok (.isub, 1) := by decide +kernel
theorem dX5_join_66 : decode cX5_join 66 = .ok (.istore_n 3, 1) := by decide +kernel
theorem dX5_join_67 : decode cX5_join 67 = .ok (.aload_n 0, 1) := by decide +kernel
theorem dX5_join_68 : decode cX5_join 68 = .ok (.aload_n 0, 1) := by decide +kernel
theorem dX5_join_69 : decode cX5_join 69 = .ok (.getfield 16, 3) := by decide +kernel
theorem dX5_join_72 : decode cX5_join 72 = .ok (.iload_n 2, 1) := by decide +kernel
theorem dX5_join_73 : decode cX5_join 73 = .ok (.iaload, 1) := by decide +kernel
theorem dX5_join_74 : decode cX5_join 74 = .ok (.bipush 6, 2) := by decide +kernel
theorem dX5_join_76 : decode cX5_join 76 = .ok (.if_icmp .eq 14, 3) := by decide +kernel
theorem dX5_join_79 : decode cX5_join 79 = .ok (.aload_n 0, 1) := by decide +kernel
theorem dX5_join_80 : decode cX5_join 80 = .ok (.getfield 16, 3) := by decide +kernel
theorem dX5_join_83 : decode cX5_join 83 = .ok (.iload_n 3, 1) := by decide +kernel
theorem dX5_join_84 : decode cX5_join 84 = .ok (.iaload, 1) := by decide +kernel
theorem dX5_join_85 : decode cX5_join 85 = .ok (.bipush 6, 2) := by decide +kernel
theorem dX5_join_87 : decode cX5_join 87 = .ok (.if_icmp .ne 7, 3) := by decide +kernel
theorem dX5_join_90 : decode cX5_join 90 = .ok (.iconst 2, 1) := by decide +kernel
theorem dX5_join_91 : decode cX5_join 91 = .ok (.goto 4, 3) := by decide +kernel
theorem dX5_join_94 : decode cX5_join 94 = .ok (.iconst 0, 1) := by decide +kernel
theorem dX5_join_95 : decode cX5_join 95 = .ok (.putfield 85, 3) := by decide +kernel
theorem dX5_join_98 : decode cX5_join 98 = .ok (.aload_n 0, 1) := by decide +kernel
theorem dX5_join_99 : decode cX5_join 99 = .ok (.getfield 85, 3) := by decide +kernel
theorem dX5_join_102 : decode cX5_join 102 = .ok (.ifCond .le 5, 3) := by decide +kernel
theorem dX5_join_105 : decode cX5_join 105 = .ok (.iconst 0, 1) := by decide +kernel
theorem dX5_join_106 : decode cX5_join 106 = .ok (.ireturn, 1) := by decide +kernel
theorem dX5_join_107 : decode cX5_join 107 = .ok (.iconst 0, 1) := by decide +kernel
theorem dX5_join_108 : decode cX5_join 108 = .ok (.istore 4, 2) := by decide +kernel
theorem dX5_join_110 : decode cX5_join 110 = .ok (.iload 4, 2) := by decide +kernel
theorem dX5_join_112 : decode cX5_join 112 = .ok (.aload_n 0, 1) := by decide +kernel
theorem dX5_join_113 : decode cX5_join 113 = .ok (.getfield 13, 3) := by decide +kernel
theorem dX5_join_116 : decode cX5_join 116 = .ok (.iload_n 3, 1) := by decide +kernel
theorem dX5_join_117 : decode cX5_join 117 = .ok (.iaload, 1) := by decide +kernel
theorem dX5_join_118 : decode cX5_join 118 = .ok (.if_icmp .ge 38, 3) := by decide +kernel
theorem dX5_join_121 : decode cX5_join 121 = .ok (.aload_n 0, 1) := by decide +kernel
theorem dX5_join_122 : decode cX5_join 122 = .ok (.iload_n 2, 1) := by decide +kernel
theorem dX5_join_123 : decode cX5_join 123 = .ok (.aload_n 0, 1) := by decide +kernel
theorem dX5_join_124 : decode cX5_join 124 = .ok (.getfield 19, 3) := by decide +kernel
theorem dX5_join_127 : decode cX5_join 127 = .ok (.bipush 64, 2) := by decide +kernel
theorem dX5_join_129 : decode cX5_join 129 = .ok (.iload_n 3, 1) := by decide +kernel
theorem dX5_join_130 : decode cX5_join 130 = .ok (.imul, 1) := by decide +kernel
theorem dX5_join_131 : decode cX5_join 131 = .ok (.iload 4, 2) := by decide +kernel
theorem dX5_join_133 : decode cX5_join 133 = .ok (.iadd, 1) := by decide +kernel
theorem dX5_join_134 : decode cX5_join 134 = .ok (.iaload, 1) := by decide +kernel
theorem dX5_join_135 : decode cX5_join 135 = .ok (.aload_n 0, 1) := by decide +kernel
theorem dX5_join_136 : decode cX5_join 136 = .ok (.getfield 22, 3) := by decide +kernel
theorem dX5_join_139 : decode cX5_join 139 = .ok (.bipush 64, 2) := by decide +kernel
theorem dX5_join_141 : decode cX5_join 141 = .ok (.iload_n 3, 1) := by decide +kernel
theorem dX5_join_142 : decode cX5_join 142 = .ok (.imul, 1) := by decide +kernel
theorem dX5_join_143 : decode cX5_join 143 = .ok (.iload 4, 2) := by decide +kernel
theorem dX5_join_145 : decode cX5_join 145 = .ok (.iadd, 1) := by decide +kernel
theorem dX5_join_146 : decode cX5_join 146 = .ok (.iaload, 1) := by decide +kernel
theorem dX5_join_147 : decode cX5_join 147 = .ok (.invokevirtual 108, 3) := by decide +kernel
theorem dX5_join_150 : decode cX5_join 150 = .ok (.iinc 4 1, 3) := by decide +kernel
theorem dX5_join_153 : decode cX5_join 153 = .ok (.goto (-43), 3) := by decide +kernel
theorem dX5_join_156 : decode cX5_join 156 = .ok (.aload_n 0, 1) := by decide +kernel
theorem dX5_join_157 : decode cX5_join 157 = .ok (.iload_n 2, 1) := by decide +kernel
theorem dX5_join_158 : decode cX5_join 158 = .ok (.iload_n 1, 1) := by decide +kernel
theorem dX5_join_159 : decode cX5_join 159 = .ok (.iconst 0, 1) := by decide +kernel
theorem dX5_join_160 : decode cX5_join 160 = .ok (.invokevirtual 108, 3) := by decide +kernel
theorem dX5_join_163 : decode cX5_join 163 = .ok (.aload_n 0, 1) := by decide +kernel
theorem dX5_join_164 : decode cX5_join 164 = .ok (.getfield 16, 3) := by decide +kernel
theorem dX5_join_167 : decode cX5_join 167 = .ok (.iload_n 2, 1) := by decide +kernel
theorem dX5_join_168 : decode cX5_join 168 = .ok (.iconst 1, 1) := by decide +kernel
theorem dX5_join_169 : decode cX5_join 169 = .ok (.aload_n 0, 1) := by decide +kernel
theorem dX5_join_170 : decode cX5_join 170 = .ok (.getfield 16, 3) := by decide +kernel
theorem dX5_join_173 : decode cX5_join 173 = .ok (.iload_n 2, 1) := by decide +kernel
theorem dX5_join_174 : decode cX5_join 174 = .ok (.iaload, 1) := by decide +kernel
theorem dX5_join_175 : decode cX5_join 175 = .ok (.aload_n 0, 1) := by decide +kernel
theorem dX5_join_176 : decode cX5_join 176 = .ok (.getfield 16, 3) := by decide +kernel
theorem dX5_join_179 : decode cX5_join 179 = .ok (.iload_n 3, 1) := by decide +kernel
theorem dX5_join_180 : decode cX5_join 180 = .ok (.iaload, 1) := by decide +kernel
theorem dX5_join_181 : decode cX5_join 181 = .ok (.if_icmp .le 12, 3) := by decide +kernel
theorem dX5_join_184 : decode cX5_join 184 = .ok (.aload_n 0, 1) := by decide +kernel
theorem dX5_join_185 : decode cX5_join 185 = .ok (.getfield 16, 3) := by decide +kernel
theorem dX5_join_188 : decode cX5_join 188 = .ok (.iload_n 2, 1) := by decide +kernel
theorem dX5_join_189 : decode cX5_join 189 = .ok (.iaload, 1) := by decide +kernel
theorem dX5_join_190 : decode cX5_join 190 = .ok (.goto 9, 3) := by decide +kernel
theorem dX5_join_193 : decode cX5_join 193 = .ok (.aload_n 0, 1) := by decide +kernel
theorem dX5_join_194 : decode cX5_join 194 = .ok (.getfield 16, 3) := by decide +kernel
theorem dX5_join_197 : decode cX5_join 197 = .ok (.iload_n 3, 1) := by decide +kernel
theorem dX5_join_198 : decode cX5_join 198 = .ok (.iaload, 1) := by decide +kernel
theorem dX5_join_199 : decode cX5_join 199 = .ok (.iadd, 1) := by decide +kernel
theorem dX5_join_200 : decode cX5_join 200 = .ok (.iastore, 1) := by decide +kernel
theorem dX5_join_201 : decode cX5_join 201 = .ok (.aload_n 0, 1) := by decide +kernel
theorem dX5_join_202 : decode cX5_join 202 = .ok (.dup, 1) := by decide +kernel
theorem dX5_join_203 : decode cX5_join 203 = .ok (.getfield 105, 3) := by decide +kernel
theorem dX5_join_206 : decode cX5_join 206 = .ok (.iconst 1, 1) := by decide +kernel
theorem dX5_join_207 : decode cX5_join 207 = .ok (.isub, 1) := by decide +kernel
theorem dX5_join_208 : decode cX5_join 208 = .ok (.putfield 105, 3) := by decide +kernel
theorem dX5_join_211 : decode cX5_join 211 = .ok (.aload_n 0, 1) := by decide +kernel
theorem dX5_join_212 : decode cX5_join 212 = .ok (.getfield 105, 3) := by decide +kernel
theorem dX5_join_215 : decode cX5_join 215 = .ok (.ireturn, 1) := by decide +kernel
theorem dX5_grows_0 : decode cX5_grows 0 = .ok (.aload_n 0, 1) := by decide +kernel
theorem dX5_grows_1 : decode cX5_grows 1 = .ok (.aload_n 0, 1) := by decide +kernel
theorem dX5_grows_2 : decode cX5_grows 2 = .ok (.getfield 105, 3) := by decide +kernel
theorem dX5_grows_5 : decode cX5_grows 5 = .ok (.iconst 1, 1) := by decide +kernel
theorem dX5_grows_6 : decode cX5_grows 6 = .ok (.isub, 1) := by decide +kernel
theorem dX5_grows_7 : decode cX5_grows 7 = .ok (.iload_n 1, 1) := by decide +kernel
theorem dX5_grows_8 : decode cX5_grows 8 = .ok (.iload_n 2, 1) := by decide +kernel
theorem dX5_grows_9 : decode cX5_grows 9 = .ok (.invokevirtual 108, 3) := by decide +kernel
theorem dX5_grows_12 : decode cX5_grows 12 = .ok (.aload_n 0, 1) := by decide +kernel
theorem dX5_grows_13 : decode cX5_grows 13 = .ok (.getfield 16, 3) := by decide +kernel
theorem dX5_grows_16 : decode cX5_grows 16 = .ok (.aload_n 0, 1) := by decide +kernel
theorem dX5_grows_17 : decode cX5_grows 17 = .ok (.getfield 105, 3) := by decide +kernel
theorem dX5_grows_20 : decode cX5_grows 20 = .ok (.iconst 1, 1) := by decide +kernel
theorem dX5_grows_21 : decode cX5_grows 21 = .ok (.isub, 1) := by decide +kernel
theorem dX5_grows_22 : decode cX5_grows 22 = .ok (.dup2, 1) := by decide +kernel
theorem dX5_grows_23 : decode cX5_grows 23 = .ok (.iaload, 1) := by decide +kernel
theorem dX5_grows_24 : decode cX5_grows 24 = .ok (.iconst 1, 1) := by decide +kernel
theorem dX5_grows_25 : decode cX5_grows 25 = .ok (.iadd, 1) := by decide +kernel
theorem dX5_grows_26 : decode cX5_grows 26 = .ok (.iastore, 1) := by decide +kernel
theorem dX5_grows_27 : decode cX5_grows 27 = .ok (.aload_n 0, 1) := by decide +kernel
theorem dX5_grows_28 : decode cX5_grows 28 = .ok (.getfield 16, 3) := by decide +kernel
theorem dX5_grows_31 : decode cX5_grows 31 = .ok (.aload_n 0, 1) := by decide +kernel
theorem dX5_grows_32 : decode cX5_grows 32 = .ok (.getfield 105, 3) := by decide +kernel
theorem dX5_grows_35 : decode cX5_grows 35 = .ok (.iconst 1, 1) := by decide +kernel
theorem dX5_grows_36 : decode cX5_grows 36 = .ok (.isub, 1) := by decide +kernel
theorem dX5_grows_37 : decode cX5_grows 37 = .ok (.iaload, 1) := by decide +kernel
theorem dX5_grows_38 : decode cX5_grows 38 = .ok (.ireturn, 1) := by decide +kernel
theorem dX5_canGrow_0 : decode cX5_canGrow 0 = .ok (.aload_n 0, 1) := by decide +kernel
theorem dX5_canGrow_1 : decode cX5_canGrow 1 = .ok (.getfield 105, 3) := by decide +kernel
theorem dX5_canGrow_4 : decode cX5_canGrow 4 = .ok (.ifCond .le 23, 3) := by decide +kernel
theorem dX5_canGrow_7 : decode cX5_canGrow 7 = .ok (.aload_n 0, 1) := by decide +kernel
theorem dX5_canGrow_8 : decode cX5_canGrow 8 = .ok (.getfield 16, 3) := by decide +kernel
theorem dX5_canGrow_11 : decode cX5_canGrow 11 = .ok (.aload_n 0, 1) := by decide +kernel
theorem dX5_canGrow_12 : decode cX5_canGrow 12 = .ok (.getfield 105, 3) := by decide +kernel
theorem dX5_canGrow_15 : decode cX5_canGrow 15 = .ok (.iconst 1, 1) := by decide +kernel
theorem dX5_canGrow_16 : decode cX5_canGrow 16 = .ok (.isub, 1) := by decide +kernel
theorem dX5_canGrow_17 : decode cX5_canGrow 17 = .ok (.iaload, 1) := by decide +kernel
theorem dX5_canGrow_18 : decode cX5_canGrow 18 = .ok (.bipush 6, 2) := by decide +kernel
theorem dX5_canGrow_20 : decode cX5_canGrow 20 = .ok (.if_icmp .ge 7, 3) := by decide +kernel
theorem dX5_canGrow_23 : decode cX5_canGrow 23 = .ok (.iconst 1, 1) := by decide +kernel
theorem dX5_canGrow_24 : decode cX5_canGrow 24 = .ok (.goto 4, 3) := by decide +kernel
theorem dX5_canGrow_27 : decode cX5_canGrow 27 = .ok (.iconst 0, 1) := by decide +kernel
theorem dX5_canGrow_28 : decode cX5_canGrow 28 = .ok (.ireturn, 1) := by decide +kernel
theorem dX5_share_0 : decode cX5_share 0 = .ok (.aload_n 0, 1) := by decide +kernel
theorem dX5_share_1 : decode cX5_share 1 = .ok (.iload_n 1, 1) := by decide +kernel
theorem dX5_share_2 : decode cX5_share 2 = .ok (.iconst 0, 1) := by decide +kernel
theorem dX5_share_3 : decode cX5_share 3 = .ok (.bipush 100, 2) := by decide +kernel
theorem dX5_share_5 : decode cX5_share 5 = .ok (.invokestatic 89, 3) := by decide +kernel
theorem dX5_share_8 : decode cX5_share 8 = .ok (.ifCond .ne 7, 3) := by decide +kernel
theorem dX5_share_11 : decode cX5_share 11 = .ok (.iconst 1, 1) := by decide +kernel
theorem dX5_share_12 : decode cX5_share 12 = .ok (.goto 15, 3) := by decide +kernel
theorem dX5_share_15 : decode cX5_share 15 = .ok (.aload_n 0, 1) := by decide +kernel
theorem dX5_share_16 : decode cX5_share 16 = .ok (.invokevirtual 119, 3) := by decide +kernel
theorem dX5_share_19 : decode cX5_share 19 = .ok (.ifCond .eq 7, 3) := by decide +kernel
theorem dX5_share_22 : decode cX5_share 22 = .ok (.iconst 0, 1) := by decide +kernel
theorem dX5_share_23 : decode cX5_share 23 = .ok (.goto 4, 3) := by decide +kernel
theorem dX5_share_26 : decode cX5_share 26 = .ok (.iconst 2, 1) := by decide +kernel
theorem dX5_share_27 : decode cX5_share 27 = .ok (.putfield 85, 3) := by decide +kernel
theorem dX5_share_30 : decode cX5_share 30 = .ok (.aload_n 0, 1) := by decide +kernel
theorem dX5_share_31 : decode cX5_share 31 = .ok (.getfield 85, 3) := by decide +kernel
theorem dX5_share_34 : decode cX5_share 34 = .ok (.ifCond .le 7, 3) := by decide +kernel
theorem dX5_share_37 : decode cX5_share 37 = .ok (.iconst 0, 1) := by decide +kernel
theorem dX5_share_38 : decode cX5_share 38 = .ok (.goto 10, 3) := by decide +kernel
theorem dX5_share_41 : decode cX5_share 41 = .ok (.aload_n 0, 1) := by decide +kernel
theorem dX5_share_42 : decode cX5_share 42 = .ok (.bipush 7, 2) := by decide +kernel
theorem dX5_share_44 : decode cX5_share 44 = .ok (.iload_n 1, 1) := by decide +kernel
theorem dX5_share_45 : decode cX5_share 45 = .ok (.invokevirtual 123, 3) := by decide +kernel
theorem dX5_share_48 : decode cX5_share 48 = .ok (.ireturn, 1) := by decide +kernel
theorem dX5_year_0 : decode cX5_year 0 = .ok (.aload_n 0, 1) := by decide +kernel
theorem dX5_year_1 : decode cX5_year 1 = .ok (.aload_n 0, 1) := by decide +kernel
theorem dX5_year_2 : decode cX5_year 2 = .ok (.invokevirtual 119, 3) := by decide +kernel
theorem dX5_year_5 : decode cX5_year 5 = .ok (.ifCond .eq 7, 3) := by decide +kernel
theorem dX5_year_8 : decode cX5_year 8 = .ok (.iconst 0, 1) := by decide +kernel
theorem dX5_year_9 : decode cX5_year 9 = .ok (.goto 4, 3) := by decide +kernel
theorem dX5_year_12 : decode cX5_year 12 = .ok (.iconst 1, 1) := by decide +kernel
theorem dX5_year_13 : decode cX5_year 13 = .ok (.putfield 85, 3) := by decide +kernel
theorem dX5_year_16 : decode cX5_year 16 = .ok (.aload_n 0, 1) := by decide +kernel
theorem dX5_year_17 : decode cX5_year 17 = .ok (.getfield 85, 3) := by decide +kernel
theorem dX5_year_20 : decode cX5_year 20 = .ok (.ifCond .le 7, 3) := by decide +kernel
theorem dX5_year_23 : decode cX5_year 23 = .ok (.iconst 0, 1) := by decide +kernel
theorem dX5_year_24 : decode cX5_year 24 = .ok (.goto 10, 3) := by decide +kernel
theorem dX5_year_27 : decode cX5_year 27 = .ok (.aload_n 0, 1) := by decide +kernel
theorem dX5_year_28 : decode cX5_year 28 = .ok (.bipush 8, 2) := by decide +kernel
theorem dX5_year_30 : decode cX5_year 30 = .ok (.iconst 0, 1) := by decide +kernel
theorem dX5_year_31 : decode cX5_year 31 = .ok (.invokevirtual 123, 3) := by decide +kernel
theorem dX5_year_34 : decode cX5_year 34 = .ok (.ireturn, 1) := by decide +kernel
theorem dX5_clear_0 : decode cX5_clear 0 = .ok (.aload_n 0, 1) := by decide +kernel
theorem dX5_clear_1 : decode cX5_clear 1 = .ok (.iconst 0, 1) := by decide +kernel
theorem dX5_clear_2 : decode cX5_clear 2 = .ok (.putfield 85, 3) := by decide +kernel
theorem dX5_clear_5 : decode cX5_clear 5 = .ok (.aload_n 0, 1) := by decide +kernel
theorem dX5_clear_6 : decode cX5_clear 6 = .ok (.getfield 105, 3) := by decide +kernel
theorem dX5_clear_9 : decode cX5_clear 9 = .ok (.istore_n 1, 1) := by decide +kernel
theorem dX5_clear_10 : decode cX5_clear 10 = .ok (.aload_n 0, 1) := by decide +kernel
theorem dX5_clear_11 : decode cX5_clear 11 = .ok (.iconst 0, 1) := by decide +kernel
theorem dX5_clear_12 : decode cX5_clear 12 = .ok (.putfield 105, 3) := by decide +kernel
theorem dX5_clear_15 : decode cX5_clear 15 = .ok (.iload_n 1, 1) := by decide +kernel
theorem dX5_clear_16 : decode cX5_clear 16 = .ok (.ireturn, 1) := by decide +kernel
theorem dX5_defines_0 : decode cX5_defines 0 = .ok (.bipush 20, 2) := by decide +kernel
theorem dX5_defines_2 : decode cX5_defines 2 = .ok (.iload_n 1, 1) := by decide +kernel
theorem dX5_defines_3 : decode cX5_defines 3 = .ok (.imul, 1) := by decide +kernel
theorem dX5_defines_4 : decode cX5_defines 4 = .ok (.iload_n 2, 1) := by decide +kernel
theorem dX5_defines_5 : decode cX5_defines 5 = .ok (.iadd, 1) := by decide +kernel
theorem dX5_defines_6 : decode cX5_defines 6 = .ok (.istore_n 3, 1) := by decide +kernel
theorem dX5_defines_7 : decode cX5_defines 7 = .ok (.aload_n 0, 1) := by decide +kernel
theorem dX5_defines_8 : decode cX5_defines 8 = .ok (.dup, 1) := by decide +kernel
theorem dX5_defines_9 : decode cX5_defines 9 = .ok (.getfield 105, 3) := by decide +kernel
theorem dX5_defines_12 : decode cX5_defines 12 = .ok (.iconst 1, 1) := by decide +kernel
theorem dX5_defines_13 : decode cX5_defines 13 = .ok (.isub, 1) := by decide +kernel
theorem dX5_defines_14 : decode cX5_defines 14 = .ok (.putfield 105, 3) := by decide +kernel
theorem dX5_defines_17 : decode cX5_defines 17 = .ok (.aload_n 0, 1) := by decide +kernel
theorem dX5_defines_18 : decode cX5_defines 18 = .ok (.getfield 28, 3) := by decide +kernel
theorem dX5_defines_21 : decode cX5_defines 21 = .ok (.iload_n 3, 1) := by decide +kernel
theorem dX5_defines_22 : decode cX5_defines 22 = .ok (.aload_n 0, 1) := by decide +kernel
theorem dX5_defines_23 : decode cX5_defines 23 = .ok (.getfield 13, 3) := by decide +kernel
theorem dX5_defines_26 : decode cX5_defines 26 = .ok (.aload_n 0, 1) := by decide +kernel
theorem dX5_defines_27 : decode cX5_defines 27 = .ok (.getfield 105, 3) := by decide +kernel
theorem dX5_defines_30 : decode cX5_defines 30 = .ok (.iaload, 1) := by decide +kernel
theorem dX5_defines_31 : decode cX5_defines 31 = .ok (.iastore, 1) := by decide +kernel
theorem dX5_defines_32 : decode cX5_defines 32 = .ok (.iconst 0, 1) := by decide +kernel
theorem dX5_defines_33 : decode cX5_defines 33 = .ok (.istore 4, 2) := by decide +kernel
theorem dX5_defines_35 : decode cX5_defines 35 = .ok (.iload 4, 2) := by decide +kernel
theorem dX5_defines_37 : decode cX5_defines 37 = .ok (.aload_n 0, 1) := by decide +kernel
theorem dX5_defines_38 : decode cX5_defines 38 = .ok (.getfield 13, 3) := by decide +kernel
theorem dX5_defines_41 : decode cX5_defines 41 = .ok (.aload_n 0, 1) := by decide +kernel
theorem dX5_defines_42 : decode cX5_defines 42 = .ok (.getfield 105, 3) := by decide +kernel
theorem dX5_defines_45 : decode cX5_defines 45 = .ok (.iaload, 1) := by decide +kernel
theorem dX5_defines_46 : decode cX5_defines 46 = .ok (.if_icmp .ge 63, 3) := by decide +kernel
theorem dX5_defines_49 : decode cX5_defines 49 = .ok (.aload_n 0, 1) := by decide +kernel
theorem dX5_defines_50 : decode cX5_defines 50 = .ok (.getfield 31, 3) := by decide +kernel
theorem dX5_defines_53 : decode cX5_defines 53 = .ok (.bipush 64, 2) := by decide +kernel
theorem dX5_defines_55 : decode cX5_defines 55 = .ok (.iload_n 3, 1) := by decide +kernel
theorem dX5_defines_56 : decode cX5_defines 56 = .ok (.imul, 1) := by decide +kernel
theorem dX5_defines_57 : decode cX5_defines 57 = .ok (.iload 4, 2) := by decide +kernel
theorem dX5_defines_59 : decode cX5_defines 59 = .ok (.iadd, 1) := by decide +kernel
theorem dX5_defines_60 : decode cX5_defines 60 = .ok (.aload_n 0, 1) := by decide +kernel
theorem dX5_defines_61 : decode cX5_defines 61 = .ok (.getfield 19, 3) := by decide +kernel
theorem dX5_defines_64 : decode cX5_defines 64 = .ok (.bipush 64, 2) := by decide +kernel
theorem dX5_defines_66 : decode cX5_defines 66 = .ok (.aload_n 0, 1) := by decide +kernel
theorem dX5_defines_67 : decode cX5_defines 67 = .ok (.getfield 105, 3) := by decide +kernel
theorem dX5_defines_70 : decode cX5_defines 70 = .ok (.imul, 1) := by decide +kernel
theorem dX5_defines_71 : decode cX5_defines 71 = .ok (.iload 4, 2) := by decide +kernel
theorem dX5_defines_73 : decode cX5_defines 73 = .ok (.iadd, 1) := by decide +kernel
theorem dX5_defines_74 : decode cX5_defines 74 = .ok (.iaload, 1) := by decide +kernel
theorem dX5_defines_75 : decode cX5_defines 75 = .ok (.iastore, 1) := by decide +kernel
theorem dX5_defines_76 : decode cX5_defines 76 = .ok (.aload_n 0, 1) := by decide +kernel
theorem dX5_defines_77 : decode cX5_defines 77 = .ok (.getfield 34, 3) := by decide +kernel
theorem dX5_defines_80 : decode cX5_defines 80 = .ok (.bipush 64, 2) := by decide +kernel
theorem dX5_defines_82 : decode cX5_defines 82 = .ok (.iload_n 3, 1) := by decide +kernel
theorem dX5_defines_83 : decode cX5_defines 83 = .ok (.imul, 1) := by decide +kernel
theorem dX5_defines_84 : decode cX5_defines 84 = .ok (.iload 4, 2) := by decide +kernel
theorem dX5_defines_86 : decode cX5_defines 86 = .ok (.iadd, 1) := by decide +kernel
theorem dX5_defines_87 : decode cX5_defines 87 = .ok (.aload_n 0, 1) := by decide +kernel
theorem dX5_defines_88 : decode cX5_defines 88 = .ok (.getfield 22, 3) := by decide +kernel
theorem dX5_defines_91 : decode cX5_defines 91 = .ok (.bipush 64, 2) := by decide +kernel
theorem dX5_defines_93 : decode cX5_defines 93 = .ok (.aload_n 0, 1) := by decide +kernel
theorem dX5_defines_94 : decode cX5_defines 94 = .ok (.getfield 105, 3) := by decide +kernel
theorem dX5_defines_97 : decode cX5_defines 97 = .ok (.imul, 1) := by decide +kernel
theorem dX5_defines_98 : decode cX5_defines 98 = .ok (.iload 4, 2) := by decide +kernel
theorem dX5_defines_100 : decode cX5_defines 100 = .ok (.iadd, 1) := by decide +kernel
theorem dX5_defines_101 : decode cX5_defines 101 = .ok (.iaload, 1) := by decide +kernel
theorem dX5_defines_102 : decode cX5_defines 102 = .ok (.iastore, 1) := by decide +kernel
theorem dX5_defines_103 : decode cX5_defines 103 = .ok (.iinc 4 1, 3) := by decide +kernel
theorem dX5_defines_106 : decode cX5_defines 106 = .ok (.goto (-71), 3) := by decide +kernel
theorem dX5_defines_109 : decode cX5_defines 109 = .ok (.return_, 1) := by decide +kernel
theorem dX5_define_0 : decode cX5_define 0 = .ok (.aload_n 0, 1) := by decide +kernel
theorem dX5_define_1 : decode cX5_define 1 = .ok (.aload_n 0, 1) := by decide +kernel
theorem dX5_define_2 : decode cX5_define 2 = .ok (.getfield 105, 3) := by decide +kernel
theorem dX5_define_5 : decode cX5_define 5 = .ok (.ifCond .eq 12, 3) := by decide +kernel
theorem dX5_define_8 : decode cX5_define 8 = .ok (.aload_n 0, 1) := by decide +kernel
theorem dX5_define_9 : decode cX5_define 9 = .ok (.getfield 93, 3) := by decide +kernel
theorem dX5_define_12 : decode cX5_define 12 = .ok (.bipush 10, 2) := by decide +kernel
theorem dX5_define_14 : decode cX5_define 14 = .ok (.if_icmp .ne 7, 3) := by decide +kernel
theorem dX5_define_17 : decode cX5_define 17 = .ok (.iconst 1, 1) := by decide +kernel
theorem dX5_define_18 : decode cX5_define 18 = .ok (.goto 4, 3) := by decide +kernel
theorem dX5_define_21 : decode cX5_define 21 = .ok (.iconst 0, 1) := by decide +kernel
theorem dX5_define_22 : decode cX5_define 22 = .ok (.putfield 85, 3) := by decide +kernel
theorem dX5_define_25 : decode cX5_define 25 = .ok (.aload_n 0, 1) := by decide +kernel
theorem dX5_define_26 : decode cX5_define 26 = .ok (.getfield 85, 3) := by decide +kernel
theorem dX5_define_29 : decode cX5_define 29 = .ok (.ifCond .le 5, 3) := by decide +kernel
theorem dX5_define_32 : decode cX5_define 32 = .ok (.iconst 0, 1) := by decide +kernel
theorem dX5_define_33 : decode cX5_define 33 = .ok (.ireturn, 1) := by decide +kernel
theorem dX5_define_34 : decode cX5_define 34 = .ok (.aload_n 0, 1) := by decide +kernel
theorem dX5_define_35 : decode cX5_define 35 = .ok (.getfield 25, 3) := by decide +kernel
theorem dX5_define_38 : decode cX5_define 38 = .ok (.aload_n 0, 1) := by decide +kernel
theorem dX5_define_39 : decode cX5_define 39 = .ok (.getfield 93, 3) := by decide +kernel
theorem dX5_define_42 : decode cX5_define 42 = .ok (.aload_n 0, 1) := by decide +kernel
theorem dX5_define_43 : decode cX5_define 43 = .ok (.getfield 16, 3) := by decide +kernel
theorem dX5_define_46 : decode cX5_define 46 = .ok (.aload_n 0, 1) := by decide +kernel
theorem dX5_define_47 : decode cX5_define 47 = .ok (.getfield 105, 3) := by decide +kernel
theorem dX5_define_50 : decode cX5_define 50 = .ok (.iconst 1, 1) := by decide +kernel
theorem dX5_define_51 : decode cX5_define 51 = .ok (.isub, 1) := by decide +kernel
theorem dX5_define_52 : decode cX5_define 52 = .ok (.iaload, 1) := by decide +kernel
theorem dX5_define_53 : decode cX5_define 53 = .ok (.iastore, 1) := by decide +kernel
theorem dX5_define_54 : decode cX5_define 54 = .ok (.aload_n 0, 1) := by decide +kernel
theorem dX5_define_55 : decode cX5_define 55 = .ok (.dup, 1) := by decide +kernel
theorem dX5_define_56 : decode cX5_define 56 = .ok (.getfield 93, 3) := by decide +kernel
theorem dX5_define_59 : decode cX5_define 59 = .ok (.iconst 1, 1) := by decide +kernel
theorem dX5_define_60 : decode cX5_define 60 = .ok (.iadd, 1) := by decide +kernel
theorem dX5_define_61 : decode cX5_define 61 = .ok (.putfield 93, 3) := by decide +kernel
theorem dX5_define_64 : decode cX5_define 64 = .ok (.aload_n 0, 1) := by decide +kernel
theorem dX5_define_65 : decode cX5_define 65 = .ok (.aload_n 0, 1) := by decide +kernel
theorem dX5_define_66 : decode cX5_define 66 = .ok (.getfield 93, 3) := by decide +kernel
theorem dX5_define_69 : decode cX5_define 69 = .ok (.iconst 1, 1) := by decide +kernel
theorem dX5_define_70 : decode cX5_define 70 = .ok (.isub, 1) := by decide +kernel
theorem dX5_define_71 : decode cX5_define 71 = .ok (.iconst 0, 1) := by decide +kernel
theorem dX5_define_72 : decode cX5_define 72 = .ok (.invokevirtual 127, 3) := by decide +kernel
theorem dX5_define_75 : decode cX5_define 75 = .ok (.aload_n 0, 1) := by decide +kernel
theorem dX5_define_76 : decode cX5_define 76 = .ok (.getfield 93, 3) := by decide +kernel
theorem dX5_define_79 : decode cX5_define 79 = .ok (.iconst 1, 1) := by decide +kernel
theorem dX5_define_80 : decode cX5_define 80 = .ok (.isub, 1) := by decide +kernel
theorem dX5_define_81 : decode cX5_define 81 = .ok (.ireturn, 1) := by decide +kernel
theorem dX5_greatestNamed_0 : decode cX5_greatestNamed 0 = .ok (.iconst (-1), 1) := by decide +kernel
theorem dX5_greatestNamed_1 : decode cX5_greatestNamed 1 = .ok (.istore_n 1, 1) := by decide +kernel
theorem dX5_greatestNamed_2 : decode cX5_greatestNamed 2 = .ok (.iconst 0, 1) := by decide +kernel
theorem dX5_greatestNamed_3 : decode cX5_greatestNamed 3 = .ok (.istore_n 2, 1) := by decide +kernel
theorem dX5_greatestNamed_4 : decode cX5_greatestNamed 4 = .ok (.iload_n 2, 1) := by decide +kernel
theorem dX5_greatestNamed_5 : decode cX5_greatestNamed 5 = .ok (.aload_n 0, 1) := by decide +kernel
theorem dX5_greatestNamed_6 : decode cX5_greatestNamed 6 = .ok (.getfield 13, 3) := by decide +kernel
theorem dX5_greatestNamed_9 : decode cX5_greatestNamed 9 = .ok (.aload_n 0, 1) := by decide +kernel
theorem dX5_greatestNamed_10 : decode cX5_greatestNamed 10 = .ok (.getfield 105, 3) := by decide +kernel
theorem dX5_greatestNamed_13 : decode cX5_greatestNamed 13 = .ok (.iconst 1, 1) := by decide +kernel
theorem dX5_greatestNamed_14 : decode cX5_greatestNamed 14 = .ok (.isub, 1) := by decide +kernel
theorem dX5_greatestNamed_15 : decode cX5_greatestNamed 15 = .ok (.iaload, 1) := by decide +kernel
theorem dX5_greatestNamed_16 : decode cX5_greatestNamed 16 = .ok (.if_icmp .ge 53, 3) := by decide +kernel
theorem dX5_greatestNamed_19 : decode cX5_greatestNamed 19 = .ok (.bipush 64, 2) := by decide +kernel
theorem dX5_greatestNamed_21 : decode cX5_greatestNamed 21 = .ok (.aload_n 0, 1) := by decide +kernel
theorem dX5_greatestNamed_22 : decode cX5_greatestNamed 22 = .ok (.getfield 105, 3) := by decide +kernel
theorem dX5_greatestNamed_25 : decode cX5_greatestNamed 25 = .ok (.iconst 1, 1) := by decide +kernel
theorem dX5_greatestNamed_26 : decode cX5_greatestNamed 26 = .ok (.isub, 1) := by decide +kernel
theorem dX5_greatestNamed_27 : decode cX5_greatestNamed 27 = .ok (.imul, 1) := by decide +kernel
theorem dX5_greatestNamed_28 : decode cX5_greatestNamed 28 = .ok (.iload_n 2, 1) := by decide +kernel
theorem dX5_greatestNamed_29 : decode cX5_greatestNamed 29 = .ok (.iadd, 1) := by decide +kernel
theorem dX5_greatestNamed_30 : decode cX5_greatestNamed 30 = .ok (.istore_n 3, 1) := by decide +kernel
theorem dX5_greatestNamed_31 : decode cX5_greatestNamed 31 = .ok (.aload_n 0, 1) := by decide +kernel
theorem dX5_greatestNamed_32 : decode cX5_greatestNamed 32 = .ok (.getfield 19, 3) := by decide +kernel
theorem dX5_greatestNamed_35 : decode cX5_greatestNamed 35 = .ok (.iload_n 3, 1) := by decide +kernel
theorem dX5_greatestNamed_36 : decode cX5_greatestNamed 36 = .ok (.iaload, 1) := by decide +kernel
theorem dX5_greatestNamed_37 : decode cX5_greatestNamed 37 = .ok (.bipush 6, 2) := by decide +kernel
theorem dX5_greatestNamed_39 : decode cX5_greatestNamed 39 = .ok (.if_icmp .ne 22, 3) := by decide +kernel
theorem dX5_greatestNamed_42 : decode cX5_greatestNamed 42 = .ok (.aload_n 0, 1) := by decide +kernel
theorem dX5_greatestNamed_43 : decode cX5_greatestNamed 43 = .ok (.getfield 22, 3) := by decide +kernel
theorem dX5_greatestNamed_46 : decode cX5_greatestNamed 46 = .ok (.iload_n 3, 1) := by decide +kernel
theorem dX5_greatestNamed_47 : decode cX5_greatestNamed 47 = .ok (.iaload, 1) := by decide +kernel
theorem dX5_greatestNamed_48 : decode cX5_greatestNamed 48 = .ok (.iload_n 1, 1) := by decide +kernel
theorem dX5_greatestNamed_49 : decode cX5_greatestNamed 49 = .ok (.if_icmp .le 12, 3) := by decide +kernel
theorem dX5_greatestNamed_52 : decode cX5_greatestNamed 52 = .ok (.aload_n 0, 1) := by decide +kernel
theorem dX5_greatestNamed_53 : decode cX5_greatestNamed 53 = .ok (.getfield 22, 3) := by decide +kernel
theorem dX5_greatestNamed_56 : decode cX5_greatestNamed 56 = .ok (.iload_n 3, 1) := by decide +kernel
theorem dX5_greatestNamed_57 : decode cX5_greatestNamed 57 = .ok (.iaload, 1) := by decide +kernel
theorem dX5_greatestNamed_58 : decode cX5_greatestNamed 58 = .ok (.goto 4, 3) := by decide +kernel
theorem dX5_greatestNamed_61 : decode cX5_greatestNamed 61 = .ok (.iload_n 1, 1) := by decide +kernel
theorem dX5_greatestNamed_62 : decode cX5_greatestNamed 62 = .ok (.istore_n 1, 1) := by decide +kernel
theorem dX5_greatestNamed_63 : decode cX5_greatestNamed 63 = .ok (.iinc 2 1, 3) := by decide +kernel
theorem dX5_greatestNamed_66 : decode cX5_greatestNamed 66 = .ok (.goto (-62), 3) := by decide +kernel
theorem dX5_greatestNamed_69 : decode cX5_greatestNamed 69 = .ok (.iload_n 1, 1) := by decide +kernel
theorem dX5_greatestNamed_70 : decode cX5_greatestNamed 70 = .ok (.ireturn, 1) := by decide +kernel
theorem dX5_amend_0 : decode cX5_amend 0 = .ok (.aload_n 0, 1) := by decide +kernel
theorem dX5_amend_1 : decode cX5_amend 1 = .ok (.aload_n 0, 1) := by decide +kernel
theorem dX5_amend_2 : decode cX5_amend 2 = .ok (.iload_n 1, 1) := by decide +kernel
theorem dX5_amend_3 : decode cX5_amend 3 = .ok (.invokevirtual 116, 3) := by decide +kernel
theorem dX5_amend_6 : decode cX5_amend 6 = .ok (.ifCond .eq 14, 3) := by decide +kernel
theorem dX5_amend_9 : decode cX5_amend 9 = .ok (.iload_n 2, 1) := by decide +kernel
theorem dX5_amend_10 : decode cX5_amend 10 = .ok (.invokestatic 100, 3) := by decide +kernel
theorem dX5_amend_13 : decode cX5_amend 13 = .ok (.ifCond .eq 7, 3) := by decide +kernel
theorem dX5_amend_16 : decode cX5_amend 16 = .ok (.iconst 0, 1) := by decide +kernel
theorem dX5_amend_17 : decode cX5_amend 17 = .ok (.goto 4, 3) := by decide +kernel
theorem dX5_amend_20 : decode cX5_amend 20 = .ok (.iconst 1, 1) := by decide +kernel
theorem dX5_amend_21 : decode cX5_amend 21 = .ok (.putfield 85, 3) := by decide +kernel
theorem dX5_amend_24 : decode cX5_amend 24 = .ok (.aload_n 0, 1) := by decide +kernel
theorem dX5_amend_25 : decode cX5_amend 25 = .ok (.getfield 85, 3) := by decide +kernel
theorem dX5_amend_28 : decode cX5_amend 28 = .ok (.ifCond .le 5, 3) := by decide +kernel
theorem dX5_amend_31 : decode cX5_amend 31 = .ok (.iconst 0, 1) := by decide +kernel
theorem dX5_amend_32 : decode cX5_amend 32 = .ok (.ireturn, 1) := by decide +kernel
theorem dX5_amend_33 : decode cX5_amend 33 = .ok (.aload_n 0, 1) := by decide +kernel
theorem dX5_amend_34 : decode cX5_amend 34 = .ok (.aload_n 0, 1) := by decide +kernel
theorem dX5_amend_35 : decode cX5_amend 35 = .ok (.getfield 105, 3) := by decide +kernel
theorem dX5_amend_38 : decode cX5_amend 38 = .ok (.ifCond .eq 31, 3) := by decide +kernel
theorem dX5_amend_41 : decode cX5_amend 41 = .ok (.aload_n 0, 1) := by decide +kernel
theorem dX5_amend_42 : decode cX5_amend 42 = .ok (.getfield 16, 3) := by decide +kernel
theorem dX5_amend_45 : decode cX5_amend 45 = .ok (.aload_n 0, 1) := by decide +kernel
theorem dX5_amend_46 : decode cX5_amend 46 = .ok (.getfield 105, 3) := by decide +kernel
theorem dX5_amend_49 : decode cX5_amend 49 = .ok (.iconst 1, 1) := by decide +kernel
theorem dX5_amend_50 : decode cX5_amend 50 = .ok (.isub, 1) := by decide +kernel
theorem dX5_amend_51 : decode cX5_amend 51 = .ok (.iaload, 1) := by decide +kernel
theorem dX5_amend_52 : decode cX5_amend 52 = .ok (.aload_n 0, 1) := by decide +kernel
theorem dX5_amend_53 : decode cX5_amend 53 = .ok (.getfield 25, 3) := by decide +kernel
theorem dX5_amend_56 : decode cX5_amend 56 = .ok (.iload_n 1, 1) := by decide +kernel
theorem dX5_amend_57 : decode cX5_amend 57 = .ok (.iaload, 1) := by decide +kernel
theorem dX5_amend_58 : decode cX5_amend 58 = .ok (.if_icmp .gt 11, 3) := by decide +kernel
theorem dX5_amend_61 : decode cX5_amend 61 = .ok (.aload_n 0, 1) := by decide +kernel
theorem dX5_amend_62 : decode cX5_amend 62 = .ok (.invokevirtual 131, 3) := by decide +kernel
theorem dX5_amend_65 : decode cX5_amend 65 = .ok (.iload_n 1, 1) := by decide +kernel
theorem dX5_amend_66 : decode cX5_amend 66 = .ok (.if_icmp .lt 7, 3) := by decide +kernel
theorem dX5_amend_69 : decode cX5_amend 69 = .ok (.iconst 2, 1) := by decide +kernel
theorem dX5_amend_70 : decode cX5_amend 70 = .ok (.goto 4, 3) := by decide +kernel
theorem dX5_amend_73 : decode cX5_amend 73 = .ok (.iconst 0, 1) := by decide +kernel
theorem dX5_amend_74 : decode cX5_amend 74 = .ok (.putfield 85, 3) := by decide +kernel
theorem dX5_amend_77 : decode cX5_amend 77 = .ok (.aload_n 0, 1) := by decide +kernel
theorem dX5_amend_78 : decode cX5_amend 78 = .ok (.getfield 85, 3) := by decide +kernel
theorem dX5_amend_81 : decode cX5_amend 81 = .ok (.ifCond .le 5, 3) := by decide +kernel
theorem dX5_amend_84 : decode cX5_amend 84 = .ok (.iconst 0, 1) := by decide +kernel
theorem dX5_amend_85 : decode cX5_amend 85 = .ok (.ireturn, 1) := by decide +kernel
theorem dX5_amend_86 : decode cX5_amend 86 = .ok (.aload_n 0, 1) := by decide +kernel
theorem dX5_amend_87 : decode cX5_amend 87 = .ok (.iload_n 1, 1) := by decide +kernel
theorem dX5_amend_88 : decode cX5_amend 88 = .ok (.iload_n 2, 1) := by decide +kernel
theorem dX5_amend_89 : decode cX5_amend 89 = .ok (.invokevirtual 127, 3) := by decide +kernel
theorem dX5_amend_92 : decode cX5_amend 92 = .ok (.iconst 0, 1) := by decide +kernel
theorem dX5_amend_93 : decode cX5_amend 93 = .ok (.istore_n 3, 1) := by decide +kernel
theorem dX5_amend_94 : decode cX5_amend 94 = .ok (.iconst 0, 1) := by decide +kernel
theorem dX5_amend_95 : decode cX5_amend 95 = .ok (.istore 4, 2) := by decide +kernel
theorem dX5_amend_97 : decode cX5_amend 97 = .ok (.iload 4, 2) := by decide +kernel
theorem dX5_amend_99 : decode cX5_amend 99 = .ok (.bipush 20, 2) := by decide +kernel
theorem dX5_amend_101 : decode cX5_amend 101 = .ok (.if_icmp .ge 32, 3) := by decide +kernel
theorem dX5_amend_104 : decode cX5_amend 104 = .ok (.iload_n 3, 1) := by decide +kernel
theorem dX5_amend_105 : decode cX5_amend 105 = .ok (.aload_n 0, 1) := by decide +kernel
theorem dX5_amend_106 : decode cX5_amend 106 = .ok (.getfield 28, 3) := by decide +kernel
theorem dX5_amend_109 : decode cX5_amend 109 = .ok (.bipush 20, 2) := by decide +kernel
theorem dX5_amend_111 : decode cX5_amend 111 = .ok (.iload_n 1, 1) := by decide +kernel
theorem dX5_amend_112 : decode cX5_amend 112 = .ok (.imul, 1) := by decide +kernel
theorem dX5_amend_113 : decode cX5_amend 113 = .ok (.iload 4, 2) := by decide +kernel
theorem dX5_amend_115 : decode cX5_amend 115 = .ok (.iadd, 1) := by decide +kernel
theorem dX5_amend_116 : decode cX5_amend 116 = .ok (.iaload, 1) := by decide +kernel
theorem dX5_amend_117 : decode cX5_amend 117 = .ok (.ifCond .le 7, 3) := by decide +kernel
theorem dX5_amend_120 : decode cX5_amend 120 = .ok (.iconst 1, 1) := by decide +kernel
theorem dX5_amend_121 : decode cX5_amend 121 = .ok (.goto 4, 3) := by decide +kernel
theorem dX5_amend_124 : decode cX5_amend 124 = .ok (.iconst 0, 1) := by decide +kernel
theorem dX5_amend_125 : decode cX5_amend 125 = .ok (.iadd, 1) := by decide +kernel
theorem dX5_amend_126 : decode cX5_amend 126 = .ok (.istore_n 3, 1) := by decide +kernel
theorem dX5_amend_127 : decode cX5_amend 127 = .ok (.iinc 4 1, 3) := by decide +kernel
theorem dX5_amend_130 : decode cX5_amend 130 = .ok (.goto (-33), 3) := by decide +kernel
theorem dX5_amend_133 : decode cX5_amend 133 = .ok (.iload_n 3, 1) := by decide +kernel
theorem dX5_amend_134 : decode cX5_amend 134 = .ok (.ireturn, 1) := by decide +kernel
theorem dX5_terms_0 : decode cX5_terms 0 = .ok (.aload_n 0, 1) := by decide +kernel
theorem dX5_terms_1 : decode cX5_terms 1 = .ok (.iconst 0, 1) := by decide +kernel
theorem dX5_terms_2 : decode cX5_terms 2 = .ok (.putfield 85, 3) := by decide +kernel
theorem dX5_terms_5 : decode cX5_terms 5 = .ok (.aload_n 0, 1) := by decide +kernel
theorem dX5_terms_6 : decode cX5_terms 6 = .ok (.getfield 93, 3) := by decide +kernel
theorem dX5_terms_9 : decode cX5_terms 9 = .ok (.ireturn, 1) := by decide +kernel
theorem dX5_level_0 : decode cX5_level 0 = .ok (.aload_n 0, 1) := by decide +kernel
theorem dX5_level_1 : decode cX5_level 1 = .ok (.aload_n 0, 1) := by decide +kernel
theorem dX5_level_2 : decode cX5_level 2 = .ok (.iload_n 1, 1) := by decide +kernel
theorem dX5_level_3 : decode cX5_level 3 = .ok (.invokevirtual 116, 3) := by decide +kernel
theorem dX5_level_6 : decode cX5_level 6 = .ok (.ifCond .eq 7, 3) := by decide +kernel
theorem dX5_level_9 : decode cX5_level 9 = .ok (.iconst 0, 1) := by decide +kernel
theorem dX5_level_10 : decode cX5_level 10 = .ok (.goto 4, 3) := by decide +kernel
theorem dX5_level_13 : decode cX5_level 13 = .ok (.iconst 1, 1) := by decide +kernel
theorem dX5_level_14 : decode cX5_level 14 = .ok (.putfield 85, 3) := by decide +kernel
theorem dX5_level_17 : decode cX5_level 17 = .ok (.aload_n 0, 1) := by decide +kernel
theorem dX5_level_18 : decode cX5_level 18 = .ok (.getfield 85, 3) := by decide +kernel
theorem dX5_level_21 : decode cX5_level 21 = .ok (.ifCond .le 7, 3) := by decide +kernel
theorem dX5_level_24 : decode cX5_level 24 = .ok (.iconst 0, 1) := by decide +kernel
theorem dX5_level_25 : decode cX5_level 25 = .ok (.goto 9, 3) := by decide +kernel
theorem dX5_level_28 : decode cX5_level 28 = .ok (.aload_n 0, 1) := by decide +kernel
theorem dX5_level_29 : decode cX5_level 29 = .ok (.getfield 25, 3) := by decide +kernel
theorem dX5_level_32 : decode cX5_level 32 = .ok (.iload_n 1, 1) := by decide +kernel
theorem dX5_level_33 : decode cX5_level 33 = .ok (.iaload, 1) := by decide +kernel
theorem dX5_level_34 : decode cX5_level 34 = .ok (.ireturn, 1) := by decide +kernel
theorem dX5_holding_0 : decode cX5_holding 0 = .ok (.bipush 20, 2) := by decide +kernel
theorem dX5_holding_2 : decode cX5_holding 2 = .ok (.iload_n 1, 1) := by decide +kernel
theorem dX5_holding_3 : decode cX5_holding 3 = .ok (.imul, 1) := by decide +kernel
theorem dX5_holding_4 : decode cX5_holding 4 = .ok (.iload_n 2, 1) := by decide +kernel
theorem dX5_holding_5 : decode cX5_holding 5 = .ok (.iadd, 1) := by decide +kernel
theorem dX5_holding_6 : decode cX5_holding 6 = .ok (.istore_n 3, 1) := by decide +kernel
theorem dX5_holding_7 : decode cX5_holding 7 = .ok (.aload_n 0, 1) := by decide +kernel
theorem dX5_holding_8 : decode cX5_holding 8 = .ok (.getfield 28, 3) := by decide +kernel
theorem dX5_holding_11 : decode cX5_holding 11 = .ok (.iload_n 3, 1) := by decide +kernel
theorem dX5_holding_12 : decode cX5_holding 12 = .ok (.iaload, 1) := by decide +kernel
theorem dX5_holding_13 : decode cX5_holding 13 = .ok (.ifCond .ne 9, 3) := by decide +kernel
theorem dX5_holding_16 : decode cX5_holding 16 = .ok (.iinc 3 (-1), 3) := by decide +kernel
theorem dX5_holding_19 : decode cX5_holding 19 = .ok (.goto (-12), 3) := by decide +kernel
theorem dX5_holding_22 : decode cX5_holding 22 = .ok (.iload_n 3, 1) := by decide +kernel
theorem dX5_holding_23 : decode cX5_holding 23 = .ok (.ireturn, 1) := by decide +kernel
theorem dX5_leaf_0 : decode cX5_leaf 0 = .ok (.iload_n 1, 1) := by decide +kernel
theorem dX5_leaf_1 : decode cX5_leaf 1 = .ok (.iconst 4, 1) := by decide +kernel
theorem dX5_leaf_2 : decode cX5_leaf 2 = .ok (.if_icmp .ne 18, 3) := by decide +kernel
theorem dX5_leaf_5 : decode cX5_leaf 5 = .ok (.aload_n 0, 1) := by decide +kernel
theorem dX5_leaf_6 : decode cX5_leaf 6 = .ok (.getfield 7, 3) := by decide +kernel
theorem dX5_leaf_9 : decode cX5_leaf 9 = .ok (.bipush 20, 2) := by decide +kernel
theorem dX5_leaf_11 : decode cX5_leaf 11 = .ok (.iload_n 2, 1) := by decide +kernel
theorem dX5_leaf_12 : decode cX5_leaf 12 = .ok (.imul, 1) := by decide +kernel
theorem dX5_leaf_13 : decode cX5_leaf 13 = .ok (.iload_n 3, 1) := by decide +kernel
theorem dX5_leaf_14 : decode cX5_leaf 14 = .ok (.iadd, 1) := by decide +kernel
theorem dX5_leaf_15 : decode cX5_leaf 15 = .ok (.iaload, 1) := by decide +kernel
theorem dX5_leaf_16 : decode cX5_leaf 16 = .ok (.i2l, 1) := by decide +kernel
theorem dX5_leaf_17 : decode cX5_leaf 17 = .ok (.goto 24, 3) := by decide +kernel
theorem dX5_leaf_20 : decode cX5_leaf 20 = .ok (.iload_n 1, 1) := by decide +kernel
theorem dX5_leaf_21 : decode cX5_leaf 21 = .ok (.iconst 5, 1) := by decide +kernel
theorem dX5_leaf_22 : decode cX5_leaf 22 = .ok (.if_icmp .ne 8, 3) := by decide +kernel
theorem dX5_leaf_25 : decode cX5_leaf 25 = .ok (.iload_n 2, 1) := by decide +kernel
theorem dX5_leaf_26 : decode cX5_leaf 26 = .ok (.i2l, 1) := by decide +kernel
theorem dX5_leaf_27 : decode cX5_leaf 27 = .ok (.goto 14, 3) := by decide +kernel
theorem dX5_leaf_30 : decode cX5_leaf 30 = .ok (.aload_n 0, 1) := by decide +kernel
theorem dX5_leaf_31 : decode cX5_leaf 31 = .ok (.getfield 37, 3) := by decide +kernel
theorem dX5_leaf_34 : decode cX5_leaf 34 = .ok (.bipush 20, 2) := by decide +kernel
theorem dX5_leaf_36 : decode cX5_leaf 36 = .ok (.iload_n 2, 1) := by decide +kernel
theorem dX5_leaf_37 : decode cX5_leaf 37 = .ok (.imul, 1) := by decide +kernel
theorem dX5_leaf_38 : decode cX5_leaf 38 = .ok (.iload_n 3, 1) := by decide +kernel
theorem dX5_leaf_39 : decode cX5_leaf 39 = .ok (.iadd, 1) := by decide +kernel
theorem dX5_leaf_40 : decode cX5_leaf 40 = .ok (.laload, 1) := by decide +kernel
theorem dX5_leaf_41 : decode cX5_leaf 41 = .ok (.lreturn, 1) := by decide +kernel
theorem dX5_joined_0 : decode cX5_joined 0 = .ok (.lload_n 1, 1) := by decide +kernel
theorem dX5_joined_1 : decode cX5_joined 1 = .ok (.lload_n 3, 1) := by decide +kernel
theorem dX5_joined_2 : decode cX5_joined 2 = .ok (.lcmp, 1) := by decide +kernel
theorem dX5_joined_3 : decode cX5_joined 3 = .ok (.ifCond .ge 7, 3) := by decide +kernel
theorem dX5_joined_6 : decode cX5_joined 6 = .ok (.lload_n 1, 1) := by decide +kernel
theorem dX5_joined_7 : decode cX5_joined 7 = .ok (.goto 4, 3) := by decide +kernel
theorem dX5_joined_10 : decode cX5_joined 10 = .ok (.lload_n 3, 1) := by decide +kernel
theorem dX5_joined_11 : decode cX5_joined 11 = .ok (.lstore 5, 2) := by decide +kernel
theorem dX5_joined_13 : decode cX5_joined 13 = .ok (.iload_n 0, 1) := by decide +kernel
theorem dX5_joined_14 : decode cX5_joined 14 = .ok (.ifCond .ne 9, 3) := by decide +kernel
theorem dX5_joined_17 : decode cX5_joined 17 = .ok (.lload_n 1, 1) := by decide +kernel
theorem dX5_joined_18 : decode cX5_joined 18 = .ok (.lload_n 3, 1) := by decide +kernel
theorem dX5_joined_19 : decode cX5_joined 19 = .ok (.ladd, 1) := by decide +kernel
theorem dX5_joined_20 : decode cX5_joined 20 = .ok (.goto 30, 3) := by decide +kernel
theorem dX5_joined_23 : decode cX5_joined 23 = .ok (.iload_n 0, 1) := by decide +kernel
theorem dX5_joined_24 : decode cX5_joined 24 = .ok (.iconst 1, 1) := by decide +kernel
theorem dX5_joined_25 : decode cX5_joined 25 = .ok (.if_icmp .ne 9, 3) := by decide +kernel
theorem dX5_joined_28 : decode cX5_joined 28 = .ok (.lload_n 1, 1) := by decide +kernel
theorem dX5_joined_29 : decode cX5_joined 29 = .ok (.lload_n 3, 1) := by decide +kernel
theorem dX5_joined_30 : decode cX5_joined 30 = .ok (.lsub, 1) := by decide +kernel
theorem dX5_joined_31 : decode cX5_joined 31 = .ok (.goto 19, 3) := by decide +kernel
theorem dX5_joined_34 : decode cX5_joined 34 = .ok (.iload_n 0, 1) := by decide +kernel
theorem dX5_joined_35 : decode cX5_joined 35 = .ok (.iconst 2, 1) := by decide +kernel
theorem dX5_joined_36 : decode cX5_joined 36 = .ok (.if_icmp .ne 8, 3) := by decide +kernel
theorem dX5_joined_39 : decode cX5_joined 39 = .ok (.lload 5, 2) := by decide +kernel
theorem dX5_joined_41 : decode cX5_joined 41 = .ok (.goto 9, 3) := by decide +kernel
theorem dX5_joined_44 : decode cX5_joined 44 = .ok (.lload_n 1, 1) := by decide +kernel
theorem dX5_joined_45 : decode cX5_joined 45 = .ok (.lload_n 3, 1) := by decide +kernel
theorem dX5_joined_46 : decode cX5_joined 46 = .ok (.ladd, 1) := by decide +kernel
theorem dX5_joined_47 : decode cX5_joined 47 = .ok (.lload 5, 2) := by decide +kernel
theorem dX5_joined_49 : decode cX5_joined 49 = .ok (.lsub, 1) := by decide +kernel
theorem dX5_joined_50 : decode cX5_joined 50 = .ok (.lreturn, 1) := by decide +kernel
theorem dX5_works_0 : decode cX5_works 0 = .ok (.iconst 0, 1) := by decide +kernel
theorem dX5_works_1 : decode cX5_works 1 = .ok (.istore_n 2, 1) := by decide +kernel
theorem dX5_works_2 : decode cX5_works 2 = .ok (.iconst 0, 1) := by decide +kernel
theorem dX5_works_3 : decode cX5_works 3 = .ok (.istore_n 3, 1) := by decide +kernel
theorem dX5_works_4 : decode cX5_works 4 = .ok (.iload_n 3, 1) := by decide +kernel
theorem dX5_works_5 : decode cX5_works 5 = .ok (.aload_n 0, 1) := by decide +kernel
theorem dX5_works_6 : decode cX5_works 6 = .ok (.getfield 28, 3) := by decide +kernel
theorem dX5_works_9 : decode cX5_works 9 = .ok (.iload_n 1, 1) := by decide +kernel
theorem dX5_works_10 : decode cX5_works 10 = .ok (.iaload, 1) := by decide +kernel
theorem dX5_works_11 : decode cX5_works 11 = .ok (.if_icmp .ge 255, 3) := by decide +kernel
theorem dX5_works_14 : decode cX5_works 14 = .ok (.aload_n 0, 1) := by decide +kernel
theorem dX5_works_15 : decode cX5_works 15 = .ok (.getfield 31, 3) := by decide +kernel
theorem dX5_works_18 : decode cX5_works 18 = .ok (.bipush 64, 2) := by decide +kernel
theorem dX5_works_20 : decode cX5_works 20 = .ok (.iload_n 1, 1) := by decide +kernel
theorem dX5_works_21 : decode cX5_works 21 = .ok (.imul, 1) := by decide +kernel
theorem dX5_works_22 : decode cX5_works 22 = .ok (.iload_n 3, 1) := by decide +kernel
theorem dX5_works_23 : decode cX5_works 23 = .ok (.iadd, 1) := by decide +kernel
theorem dX5_works_24 : decode cX5_works 24 = .ok (.iaload, 1) := by decide +kernel
theorem dX5_works_25 : decode cX5_works 25 = .ok (.istore 4, 2) := by decide +kernel
theorem dX5_works_27 : decode cX5_works 27 = .ok (.aload_n 0, 1) := by decide +kernel
theorem dX5_works_28 : decode cX5_works 28 = .ok (.getfield 34, 3) := by decide +kernel
theorem dX5_works_31 : decode cX5_works 31 = .ok (.bipush 64, 2) := by decide +kernel
theorem dX5_works_33 : decode cX5_works 33 = .ok (.iload_n 1, 1) := by decide +kernel
theorem dX5_works_34 : decode cX5_works 34 = .ok (.imul, 1) := by decide +kernel
theorem dX5_works_35 : decode cX5_works 35 = .ok (.iload_n 3, 1) := by decide +kernel
theorem dX5_works_36 : decode cX5_works 36 = .ok (.iadd, 1) := by decide +kernel
theorem dX5_works_37 : decode cX5_works 37 = .ok (.iaload, 1) := by decide +kernel
theorem dX5_works_38 : decode cX5_works 38 = .ok (.istore 5, 2) := by decide +kernel
theorem dX5_works_40 : decode cX5_works 40 = .ok (.iload_n 2, 1) := by decide +kernel
theorem dX5_works_41 : decode cX5_works 41 = .ok (.iload 4, 2) := by decide +kernel
theorem dX5_works_43 : decode cX5_works 43 = .ok (.iconst 4, 1) := by decide +kernel
theorem dX5_works_44 : decode cX5_works 44 = .ok (.bipush 6, 2) := by decide +kernel
theorem dX5_works_46 : decode cX5_works 46 = .ok (.invokestatic 89, 3) := by decide +kernel
theorem dX5_works_49 : decode cX5_works 49 = .ok (.ifCond .eq 7, 3) := by decide +kernel
theorem dX5_works_52 : decode cX5_works 52 = .ok (.iconst 1, 1) := by decide +kernel
theorem dX5_works_53 : decode cX5_works 53 = .ok (.goto 14, 3) := by decide +kernel
theorem dX5_works_56 : decode cX5_works 56 = .ok (.iload 4, 2) := by decide +kernel
theorem dX5_works_58 : decode cX5_works 58 = .ok (.iconst 4, 1) := by decide +kernel
theorem dX5_works_59 : decode cX5_works 59 = .ok (.if_icmp .ge 7, 3) := by decide +kernel
theorem dX5_works_62 : decode cX5_works 62 = .ok (.iconst (-1), 1) := by decide +kernel
theorem dX5_works_63 : decode cX5_works 63 = .ok (.goto 4, 3) := by decide +kernel
theorem dX5_works_66 : decode cX5_works 66 = .ok (.iconst 0, 1) := by decide +kernel
theorem dX5_works_67 : decode cX5_works 67 = .ok (.iadd, 1) := by decide +kernel
theorem dX5_works_68 : decode cX5_works 68 = .ok (.istore_n 2, 1) := by decide +kernel
theorem dX5_works_69 : decode cX5_works 69 = .ok (.bipush 20, 2) := by decide +kernel
theorem dX5_works_71 : decode cX5_works 71 = .ok (.iload_n 2, 1) := by decide +kernel
theorem dX5_works_72 : decode cX5_works 72 = .ok (.iconst 1, 1) := by decide +kernel
theorem dX5_works_73 : decode cX5_works 73 = .ok (.isub, 1) := by decide +kernel
theorem dX5_works_74 : decode cX5_works 74 = .ok (.imul, 1) := by decide +kernel
theorem dX5_works_75 : decode cX5_works 75 = .ok (.istore 6, 2) := by decide +kernel
theorem dX5_works_77 : decode cX5_works 77 = .ok (.bipush 19, 2) := by decide +kernel
theorem dX5_works_79 : decode cX5_works 79 = .ok (.istore 7, 2) := by decide +kernel
theorem dX5_works_81 : decode cX5_works 81 = .ok (.iload 7, 2) := by decide +kernel
theorem dX5_works_83 : decode cX5_works 83 = .ok (.ifCond .lt 177, 3) := by decide +kernel
theorem dX5_works_86 : decode cX5_works 86 = .ok (.iload 4, 2) := by decide +kernel
theorem dX5_works_88 : decode cX5_works 88 = .ok (.iconst 4, 1) := by decide +kernel
theorem dX5_works_89 : decode cX5_works 89 = .ok (.bipush 6, 2) := by decide +kernel
theorem dX5_works_91 : decode cX5_works 91 = .ok (.invokestatic 89, 3) := by decide +kernel
theorem dX5_works_94 : decode cX5_works 94 = .ok (.ifCond .eq 26, 3) := by decide +kernel
theorem dX5_works_97 : decode cX5_works 97 = .ok (.aload_n 0, 1) := by decide +kernel
theorem dX5_works_98 : decode cX5_works 98 = .ok (.getfield 41, 3) := by decide +kernel
theorem dX5_works_101 : decode cX5_works 101 = .ok (.iload 6, 2) := by decide +kernel
theorem dX5_works_103 : decode cX5_works 103 = .ok (.iload 7, 2) := by decide +kernel
theorem dX5_works_105 : decode cX5_works 105 = .ok (.iadd, 1) := by decide +kernel
theorem dX5_works_106 : decode cX5_works 106 = .ok (.aload_n 0, 1) := by decide +kernel
theorem dX5_works_107 : decode cX5_works 107 = .ok (.iload 4, 2) := by decide +kernel
theorem dX5_works_109 : decode cX5_works 109 = .ok (.iload 5, 2) := by decide +kernel
theorem dX5_works_111 : decode cX5_works 111 = .ok (.iload 7, 2) := by decide +kernel
theorem dX5_works_113 : decode cX5_works 113 = .ok (.invokevirtual 135, 3) := by decide +kernel
theorem dX5_works_116 : decode cX5_works 116 = .ok (.lastore, 1) := by decide +kernel
theorem dX5_works_117 : decode cX5_works 117 = .ok (.goto 137, 3) := by decide +kernel
theorem dX5_works_120 : decode cX5_works 120 = .ok (.iload 4, 2) := by decide +kernel
theorem dX5_works_122 : decode cX5_works 122 = .ok (.iconst 4, 1) := by decide +kernel
theorem dX5_works_123 : decode cX5_works 123 = .ok (.if_icmp .ge 44, 3) := by decide +kernel
theorem dX5_works_126 : decode cX5_works 126 = .ok (.aload_n 0, 1) := by decide +kernel
theorem dX5_works_127 : decode cX5_works 127 = .ok (.getfield 41, 3) := by decide +kernel
theorem dX5_works_130 : decode cX5_works 130 = .ok (.iload 6, 2) := by decide +kernel
theorem dX5_works_132 : decode cX5_works 132 = .ok (.iload 7, 2) := by decide +kernel
theorem dX5_works_134 : decode cX5_works 134 = .ok (.iadd, 1) := by decide +kernel
theorem dX5_works_135 : decode cX5_works 135 = .ok (.iload 4, 2) := by decide +kernel
theorem dX5_works_137 : decode cX5_works 137 = .ok (.aload_n 0, 1) := by decide +kernel
theorem dX5_works_138 : decode cX5_works 138 = .ok (.getfield 41, 3) := by decide +kernel
theorem dX5_works_141 : decode cX5_works 141 = .ok (.iload 6, 2) := by decide +kernel
theorem dX5_works_143 : decode cX5_works 143 = .ok (.iload 7, 2) := by decide +kernel
theorem dX5_works_145 : decode cX5_works 145 = .ok (.iadd, 1) := by decide +kernel
theorem dX5_works_146 : decode cX5_works 146 = .ok (.laload, 1) := by decide +kernel
theorem dX5_works_147 : decode cX5_works 147 = .ok (.aload_n 0, 1) := by decide +kernel
theorem dX5_works_148 : decode cX5_works 148 = .ok (.getfield 41, 3) := by decide +kernel
theorem dX5_works_151 : decode cX5_works 151 = .ok (.iload 6, 2) := by decide +kernel
theorem dX5_works_153 : decode cX5_works 153 = .ok (.bipush 20, 2) := by decide +kernel
theorem dX5_works_155 : decode cX5_works 155 = .ok (.iadd, 1) := by decide +kernel
theorem dX5_works_156 : decode cX5_works 156 = .ok (.iload 7, 2) := by decide +kernel
theorem dX5_works_158 : decode cX5_works 158 = .ok (.iadd, 1) := by decide +kernel
theorem dX5_works_159 : decode cX5_works 159 = .ok (.laload, 1) := by decide +kernel
theorem dX5_works_160 : decode cX5_works 160 = .ok (.invokestatic 139, 3) := by decide +kernel
theorem dX5_works_163 : decode cX5_works 163 = .ok (.lastore, 1) := by decide +kernel
theorem dX5_works_164 : decode cX5_works 164 = .ok (.goto 90, 3) := by decide +kernel
theorem dX5_works_167 : decode cX5_works 167 = .ok (.iload 4, 2) := by decide +kernel
theorem dX5_works_169 : decode cX5_works 169 = .ok (.bipush 7, 2) := by decide +kernel
theorem dX5_works_171 : decode cX5_works 171 = .ok (.if_icmp .ne 35, 3) := by decide +kernel
theorem dX5_works_174 : decode cX5_works 174 = .ok (.aload_n 0, 1) := by decide +kernel
theorem dX5_works_175 : decode cX5_works 175 = .ok (.getfield 41, 3) := by decide +kernel
theorem dX5_works_178 : decode cX5_works 178 = .ok (.iload 6, 2) := by decide +kernel
theorem dX5_works_180 : decode cX5_works 180 = .ok (.iload 7, 2) := by decide +kernel
theorem dX5_works_182 : decode cX5_works 182 = .ok (.iadd, 1) := by decide +kernel
theorem dX5_works_183 : decode cX5_works 183 = .ok (.aload_n 0, 1) := by decide +kernel
theorem dX5_works_184 : decode cX5_works 184 = .ok (.getfield 41, 3) := by decide +kernel
theorem dX5_works_187 : decode cX5_works 187 = .ok (.iload 6, 2) := by decide +kernel
theorem dX5_works_189 : decode cX5_works 189 = .ok (.iload 7, 2) := by decide +kernel
theorem dX5_works_191 : decode cX5_works 191 = .ok (.iadd, 1) := by decide +kernel
theorem dX5_works_192 : decode cX5_works 192 = .ok (.laload, 1) := by decide +kernel
theorem dX5_works_193 : decode cX5_works 193 = .ok (.iload 5, 2) := by decide +kernel
theorem dX5_works_195 : decode cX5_works 195 = .ok (.i2l, 1) := by decide +kernel
theorem dX5_works_196 : decode cX5_works 196 = .ok (.lmul, 1) := by decide +kernel
theorem dX5_works_197 : decode cX5_works 197 = .ok (.bipush 100, 2) := by decide +kernel
theorem dX5_works_199 : decode cX5_works 199 = .ok (.invokestatic 143, 3) := by decide +kernel
theorem dX5_works_202 : decode cX5_works 202 = .ok (.lastore, 1) := by decide +kernel
theorem dX5_works_203 : decode cX5_works 203 = .ok (.goto 51, 3) := by decide +kernel
theorem dX5_works_206 : decode cX5_works 206 = .ok (.iconst 1, 1) := by decide +kernel
theorem dX5_works_207 : decode cX5_works 207 = .ok (.istore 8, 2) := by decide +kernel
theorem dX5_works_209 : decode cX5_works 209 = .ok (.iload 8, 2) := by decide +kernel
theorem dX5_works_211 : decode cX5_works 211 = .ok (.iconst 4, 1) := by decide +kernel
theorem dX5_works_212 : decode cX5_works 212 = .ok (.if_icmp .ge 42, 3) := by decide +kernel
theorem dX5_works_215 : decode cX5_works 215 = .ok (.iload 8, 2) := by decide +kernel
theorem dX5_works_217 : decode cX5_works 217 = .ok (.iload 7, 2) := by decide +kernel
theorem dX5_works_219 : decode cX5_works 219 = .ok (.if_icmp .gt 35, 3) := by decide +kernel
theorem dX5_works_222 : decode cX5_works 222 = .ok (.aload_n 0, 1) := by decide +kernel
theorem dX5_works_223 : decode cX5_works 223 = .ok (.getfield 41, 3) := by decide +kernel
theorem dX5_works_226 : decode cX5_works 226 = .ok (.iload 6, 2) := by decide +kernel
theorem dX5_works_228 : decode cX5_works 228 = .ok (.iload 7, 2) := by decide +kernel
theorem dX5_works_230 : decode cX5_works 230 = .ok (.iadd, 1) := by decide +kernel
theorem dX5_works_231 : decode cX5_works 231 = .ok (.dup2, 1) := by decide +kernel
theorem dX5_works_232 : decode cX5_works 232 = .ok (.laload, 1) := by decide +kernel
theorem dX5_works_233 : decode cX5_works 233 = .ok (.aload_n 0, 1) := by decide +kernel
theorem dX5_works_234 : decode cX5_works 234 = .ok (.getfield 41, 3) := by decide +kernel
theorem dX5_works_237 : decode cX5_works 237 = .ok (.iload 6, 2) := by decide +kernel
theorem dX5_works_239 : decode cX5_works 239 = .ok (.iload 7, 2) := by decide +kernel
theorem dX5_works_241 : decode cX5_works 241 = .ok (.iadd, 1) := by decide +kernel
theorem dX5_works_242 : decode cX5_works 242 = .ok (.iload 8, 2) := by decide +kernel
theorem dX5_works_244 : decode cX5_works 244 = .ok (.isub, 1) := by decide +kernel
theorem dX5_works_245 : decode cX5_works 245 = .ok (.laload, 1) := by decide +kernel
theorem dX5_works_246 : decode cX5_works 246 = .ok (.ladd, 1) := by decide +kernel
theorem dX5_works_247 : decode cX5_works 247 = .ok (.lastore, 1) := by decide +kernel
theorem dX5_works_248 : decode cX5_works 248 = .ok (.iinc 8 1, 3) := by decide +kernel
theorem dX5_works_251 : decode cX5_works 251 = .ok (.goto (-42), 3) := by decide +kernel
theorem dX5_works_254 : decode cX5_works 254 = .ok (.iinc 7 (-1), 3) := by decide +kernel
theorem dX5_works_257 : decode cX5_works 257 = .ok (.goto (-176), 3) := by decide +kernel
theorem dX5_works_260 : decode cX5_works 260 = .ok (.iinc 3 1, 3) := by decide +kernel
theorem dX5_works_263 : decode cX5_works 263 = .ok (.goto (-259), 3) := by decide +kernel
theorem dX5_works_266 : decode cX5_works 266 = .ok (.return_, 1) := by decide +kernel
theorem dX5_tells_0 : decode cX5_tells 0 = .ok (.iconst 0, 1) := by decide +kernel
theorem dX5_tells_1 : decode cX5_tells 1 = .ok (.istore_n 1, 1) := by decide +kernel
theorem dX5_tells_2 : decode cX5_tells 2 = .ok (.iload_n 1, 1) := by decide +kernel
theorem dX5_tells_3 : decode cX5_tells 3 = .ok (.aload_n 0, 1) := by decide +kernel
theorem dX5_tells_4 : decode cX5_tells 4 = .ok (.getfield 93, 3) := by decide +kernel
theorem dX5_tells_7 : decode cX5_tells 7 = .ok (.if_icmp .ge 78, 3) := by decide +kernel
theorem dX5_tells_10 : decode cX5_tells 10 = .ok (.iconst 0, 1) := by decide +kernel
theorem dX5_tells_11 : decode cX5_tells 11 = .ok (.istore_n 2, 1) := by decide +kernel
theorem dX5_tells_12 : decode cX5_tells 12 = .ok (.iload_n 2, 1) := by decide +kernel
theorem dX5_tells_13 : decode cX5_tells 13 = .ok (.bipush 20, 2) := by decide +kernel
theorem dX5_tells_15 : decode cX5_tells 15 = .ok (.if_icmp .ge 64, 3) := by decide +kernel
theorem dX5_tells_18 : decode cX5_tells 18 = .ok (.aload_n 0, 1) := by decide +kernel
theorem dX5_tells_19 : decode cX5_tells 19 = .ok (.getfield 28, 3) := by decide +kernel
theorem dX5_tells_22 : decode cX5_tells 22 = .ok (.bipush 20, 2) := by decide +kernel
theorem dX5_tells_24 : decode cX5_tells 24 = .ok (.iload_n 1, 1) := by decide +kernel
theorem dX5_tells_25 : decode cX5_tells 25 = .ok (.imul, 1) := by decide +kernel
theorem dX5_tells_26 : decode cX5_tells 26 = .ok (.iload_n 2, 1) := by decide +kernel
theorem dX5_tells_27 : decode cX5_tells 27 = .ok (.iadd, 1) := by decide +kernel
theorem dX5_tells_28 : decode cX5_tells 28 = .ok (.iaload, 1) := by decide +kernel
theorem dX5_tells_29 : decode cX5_tells 29 = .ok (.ifCond .le 44, 3) := by decide +kernel
theorem dX5_tells_32 : decode cX5_tells 32 = .ok (.aload_n 0, 1) := by decide +kernel
theorem dX5_tells_33 : decode cX5_tells 33 = .ok (.bipush 20, 2) := by decide +kernel
theorem dX5_tells_35 : decode cX5_tells 35 = .ok (.iload_n 1, 1) := by decide +kernel
theorem dX5_tells_36 : decode cX5_tells 36 = .ok (.imul, 1) := by decide +kernel
theorem dX5_tells_37 : decode cX5_tells 37 = .ok (.iload_n 2, 1) := by decide +kernel
theorem dX5_tells_38 : decode cX5_tells 38 = .ok (.iadd, 1) := by decide +kernel
theorem dX5_tells_39 : decode cX5_tells 39 = .ok (.invokevirtual 147, 3) := by decide +kernel
theorem dX5_tells_42 : decode cX5_tells 42 = .ok (.iload_n 2, 1) := by decide +kernel
theorem dX5_tells_43 : decode cX5_tells 43 = .ok (.istore_n 3, 1) := by decide +kernel
theorem dX5_tells_44 : decode cX5_tells 44 = .ok (.iload_n 3, 1) := by decide +kernel
theorem dX5_tells_45 : decode cX5_tells 45 = .ok (.bipush 20, 2) := by decide +kernel
theorem dX5_tells_47 : decode cX5_tells 47 = .ok (.if_icmp .ge 26, 3) := by decide +kernel
theorem dX5_tells_50 : decode cX5_tells 50 = .ok (.aload_n 0, 1) := by decide +kernel
theorem dX5_tells_51 : decode cX5_tells 51 = .ok (.getfield 37, 3) := by decide +kernel
theorem dX5_tells_54 : decode cX5_tells 54 = .ok (.bipush 20, 2) := by decide +kernel
theorem dX5_tells_56 : decode cX5_tells 56 = .ok (.iload_n 1, 1) := by decide +kernel
theorem dX5_tells_57 : decode cX5_tells 57 = .ok (.imul, 1) := by decide +kernel
theorem dX5_tells_58 : decode cX5_tells 58 = .ok (.iload_n 3, 1) := by decide +kernel
theorem dX5_tells_59 : decode cX5_tells 59 = .ok (.iadd, 1) := by decide +kernel
theorem dX5_tells_60 : decode cX5_tells 60 = .ok (.aload_n 0, 1) := by decide +kernel
theorem dX5_tells_61 : decode cX5_tells 61 = .ok (.getfield 41, 3) := by decide +kernel
theorem dX5_tells_64 : decode cX5_tells 64 = .ok (.iload_n 3, 1) := by decide +kernel
theorem dX5_tells_65 : decode cX5_tells 65 = .ok (.laload, 1) := by decide +kernel
theorem dX5_tells_66 : decode cX5_tells 66 = .ok (.lastore, 1) := by decide +kernel
theorem dX5_tells_67 : decode cX5_tells 67 = .ok (.iinc 3 1, 3) := by decide +kernel
theorem dX5_tells_70 : decode cX5_tells 70 = .ok (.goto (-26), 3) := by decide +kernel
theorem dX5_tells_73 : decode cX5_tells 73 = .ok (.iinc 2 1, 3) := by decide +kernel
theorem dX5_tells_76 : decode cX5_tells 76 = .ok (.goto (-64), 3) := by decide +kernel
theorem dX5_tells_79 : decode cX5_tells 79 = .ok (.iinc 1 1, 3) := by decide +kernel
theorem dX5_tells_82 : decode cX5_tells 82 = .ok (.goto (-80), 3) := by decide +kernel
theorem dX5_tells_85 : decode cX5_tells 85 = .ok (.return_, 1) := by decide +kernel
theorem dX5_value_0 : decode cX5_value 0 = .ok (.aload_n 0, 1) := by decide +kernel
theorem dX5_value_1 : decode cX5_value 1 = .ok (.aload_n 0, 1) := by decide +kernel
theorem dX5_value_2 : decode cX5_value 2 = .ok (.iload_n 1, 1) := by decide +kernel
theorem dX5_value_3 : decode cX5_value 3 = .ok (.invokevirtual 116, 3) := by decide +kernel
theorem dX5_value_6 : decode cX5_value 6 = .ok (.ifCond .eq 14, 3) := by decide +kernel
theorem dX5_value_9 : decode cX5_value 9 = .ok (.iload_n 2, 1) := by decide +kernel
theorem dX5_value_10 : decode cX5_value 10 = .ok (.invokestatic 100, 3) := by decide +kernel
theorem dX5_value_13 : decode cX5_value 13 = .ok (.ifCond .eq 7, 3) := by decide +kernel
theorem dX5_value_16 : decode cX5_value 16 = .ok (.iconst 0, 1) := by decide +kernel
theorem dX5_value_17 : decode cX5_value 17 = .ok (.goto 4, 3) := by decide +kernel
theorem dX5_value_20 : decode cX5_value 20 = .ok (.iconst 1, 1) := by decide +kernel
theorem dX5_value_21 : decode cX5_value 21 = .ok (.putfield 85, 3) := by decide +kernel
theorem dX5_value_24 : decode cX5_value 24 = .ok (.aload_n 0, 1) := by decide +kernel
theorem dX5_value_25 : decode cX5_value 25 = .ok (.getfield 85, 3) := by decide +kernel
theorem dX5_value_28 : decode cX5_value 28 = .ok (.ifCond .le 5, 3) := by decide +kernel
theorem dX5_value_31 : decode cX5_value 31 = .ok (.lconst 0, 1) := by decide +kernel
theorem dX5_value_32 : decode cX5_value 32 = .ok (.lreturn, 1) := by decide +kernel
theorem dX5_value_33 : decode cX5_value 33 = .ok (.aload_n 0, 1) := by decide +kernel
theorem dX5_value_34 : decode cX5_value 34 = .ok (.invokevirtual 151, 3) := by decide +kernel
theorem dX5_value_37 : decode cX5_value 37 = .ok (.aload_n 0, 1) := by decide +kernel
theorem dX5_value_38 : decode cX5_value 38 = .ok (.getfield 37, 3) := by decide +kernel
theorem dX5_value_41 : decode cX5_value 41 = .ok (.bipush 20, 2) := by decide +kernel
theorem dX5_value_43 : decode cX5_value 43 = .ok (.iload_n 1, 1) := by decide +kernel
theorem dX5_value_44 : decode cX5_value 44 = .ok (.imul, 1) := by decide +kernel
theorem dX5_value_45 : decode cX5_value 45 = .ok (.iload_n 2, 1) := by decide +kernel
theorem dX5_value_46 : decode cX5_value 46 = .ok (.iadd, 1) := by decide +kernel
theorem dX5_value_47 : decode cX5_value 47 = .ok (.laload, 1) := by decide +kernel
theorem dX5_value_48 : decode cX5_value 48 = .ok (.lreturn, 1) := by decide +kernel
theorem dX5_inserts_0 : decode cX5_inserts 0 = .ok (.aload_n 0, 1) := by decide +kernel
theorem dX5_inserts_1 : decode cX5_inserts 1 = .ok (.getfield 154, 3) := by decide +kernel
theorem dX5_inserts_4 : decode cX5_inserts 4 = .ok (.istore_n 3, 1) := by decide +kernel
theorem dX5_inserts_5 : decode cX5_inserts 5 = .ok (.iload_n 3, 1) := by decide +kernel
theorem dX5_inserts_6 : decode cX5_inserts 6 = .ok (.iload_n 1, 1) := by decide +kernel
theorem dX5_inserts_7 : decode cX5_inserts 7 = .ok (.if_icmp .le 23, 3) := by decide +kernel
theorem dX5_inserts_10 : decode cX5_inserts 10 = .ok (.aload_n 0, 1) := by decide +kernel
theorem dX5_inserts_11 : decode cX5_inserts 11 = .ok (.getfield 44, 3) := by decide +kernel
theorem dX5_inserts_14 : decode cX5_inserts 14 = .ok (.iload_n 3, 1) := by decide +kernel
theorem dX5_inserts_15 : decode cX5_inserts 15 = .ok (.aload_n 0, 1) := by decide +kernel
theorem dX5_inserts_16 : decode cX5_inserts 16 = .ok (.getfield 44, 3) := by decide +kernel
theorem dX5_inserts_19 : decode cX5_inserts 19 = .ok (.iload_n 3, 1) := by decide +kernel
theorem dX5_inserts_20 : decode cX5_inserts 20 = .ok (.iconst 1, 1) := by decide +kernel
theorem dX5_inserts_21 : decode cX5_inserts 21 = .ok (.isub, 1) := by decide +kernel
theorem dX5_inserts_22 : decode cX5_inserts 22 = .ok (.caload, 1) := by decide +kernel
theorem dX5_inserts_23 : decode cX5_inserts 23 = .ok (.castore, 1) := by decide +kernel
theorem dX5_inserts_24 : decode cX5_inserts 24 = .ok (.iinc 3 (-1), 3) := by decide +kernel
theorem dX5_inserts_27 : decode cX5_inserts 27 = .ok (.goto (-22), 3) := by decide +kernel
theorem dX5_inserts_30 : decode cX5_inserts 30 = .ok (.aload_n 0, 1) := by decide +kernel
theorem dX5_inserts_31 : decode cX5_inserts 31 = .ok (.getfield 44, 3) := by decide +kernel
theorem dX5_inserts_34 : decode cX5_inserts 34 = .ok (.iload_n 1, 1) := by decide +kernel
theorem dX5_inserts_35 : decode cX5_inserts 35 = .ok (.iload_n 2, 1) := by decide +kernel
theorem dX5_inserts_36 : decode cX5_inserts 36 = .ok (.castore, 1) := by decide +kernel
theorem dX5_inserts_37 : decode cX5_inserts 37 = .ok (.aload_n 0, 1) := by decide +kernel
theorem dX5_inserts_38 : decode cX5_inserts 38 = .ok (.dup, 1) := by decide +kernel
theorem dX5_inserts_39 : decode cX5_inserts 39 = .ok (.getfield 154, 3) := by decide +kernel
theorem dX5_inserts_42 : decode cX5_inserts 42 = .ok (.iconst 1, 1) := by decide +kernel
theorem dX5_inserts_43 : decode cX5_inserts 43 = .ok (.iadd, 1) := by decide +kernel
theorem dX5_inserts_44 : decode cX5_inserts 44 = .ok (.putfield 154, 3) := by decide +kernel
theorem dX5_inserts_47 : decode cX5_inserts 47 = .ok (.return_, 1) := by decide +kernel
theorem dX5_insertsNumber_0 : decode cX5_insertsNumber 0 = .ok (.iload_n 1, 1) := by decide +kernel
theorem dX5_insertsNumber_1 : decode cX5_insertsNumber 1 = .ok (.istore_n 3, 1) := by decide +kernel
theorem dX5_insertsNumber_2 : decode cX5_insertsNumber 2 = .ok (.iload_n 2, 1) := by decide +kernel
theorem dX5_insertsNumber_3 : decode cX5_insertsNumber 3 = .ok (.istore 4, 2) := by decide +kernel
theorem dX5_insertsNumber_5 : decode cX5_insertsNumber 5 = .ok (.aload_n 0, 1) := by decide +kernel
theorem dX5_insertsNumber_6 : decode cX5_insertsNumber 6 = .ok (.iload_n 1, 1) := by decide +kernel
theorem dX5_insertsNumber_7 : decode cX5_insertsNumber 7 = .ok (.bipush 48, 2) := by decide +kernel
theorem dX5_insertsNumber_9 : decode cX5_insertsNumber 9 = .ok (.iload 4, 2) := by decide +kernel
theorem dX5_insertsNumber_11 : decode cX5_insertsNumber 11 = .ok (.bipush 10, 2) := by decide +kernel
theorem dX5_insertsNumber_13 : decode cX5_insertsNumber 13 = .ok (.irem, 1) := by decide +kernel
theorem dX5_insertsNumber_14 : decode cX5_insertsNumber 14 = .ok (.iadd, 1) := by decide +kernel
theorem dX5_insertsNumber_15 : decode cX5_insertsNumber 15 = .ok (.i2c, 1) := by decide +kernel
theorem dX5_insertsNumber_16 : decode cX5_insertsNumber 16 = .ok (.invokevirtual 157, 3) := by decide +kernel
theorem dX5_insertsNumber_19 : decode cX5_insertsNumber 19 = .ok (.iload 4, 2) := by decide +kernel
theorem dX5_insertsNumber_21 : decode cX5_insertsNumber 21 = .ok (.bipush 10, 2) := by decide +kernel
theorem dX5_insertsNumber_23 : decode cX5_insertsNumber 23 = .ok (.idiv, 1) := by decide +kernel
theorem dX5_insertsNumber_24 : decode cX5_insertsNumber 24 = .ok (.istore 4, 2) := by decide +kernel
theorem dX5_insertsNumber_26 : decode cX5_insertsNumber 26 = .ok (.iinc 3 1, 3) := by decide +kernel
theorem dX5_insertsNumber_29 : decode cX5_insertsNumber 29 = .ok (.iload 4, 2) := by decide +kernel
theorem dX5_insertsNumber_31 : decode cX5_insertsNumber 31 = .ok (.ifCond .gt (-26), 3) := by decide +kernel
theorem dX5_insertsNumber_34 : decode cX5_insertsNumber 34 = .ok (.iload_n 3, 1) := by decide +kernel
theorem dX5_insertsNumber_35 : decode cX5_insertsNumber 35 = .ok (.ireturn, 1) := by decide +kernel
theorem dX5_insertsWord_0 : decode cX5_insertsWord 0 = .ok (.iload_n 1, 1) := by decide +kernel
theorem dX5_insertsWord_1 : decode cX5_insertsWord 1 = .ok (.istore 7, 2) := by decide +kernel
theorem dX5_insertsWord_3 : decode cX5_insertsWord 3 = .ok (.aload_n 0, 1) := by decide +kernel
theorem dX5_insertsWord_4 : decode cX5_insertsWord 4 = .ok (.iload 7, 2) := by decide +kernel
theorem dX5_insertsWord_6 : decode cX5_insertsWord 6 = .ok (.iload_n 2, 1) := by decide +kernel
theorem dX5_insertsWord_7 : decode cX5_insertsWord 7 = .ok (.invokevirtual 157, 3) := by decide +kernel
theorem dX5_insertsWord_10 : decode cX5_insertsWord 10 = .ok (.iinc 7 1, 3) := by decide +kernel
theorem dX5_insertsWord_13 : decode cX5_insertsWord 13 = .ok (.aload_n 0, 1) := by decide +kernel
theorem dX5_insertsWord_14 : decode cX5_insertsWord 14 = .ok (.iload 7, 2) := by decide +kernel
theorem dX5_insertsWord_16 : decode cX5_insertsWord 16 = .ok (.iload_n 3, 1) := by decide +kernel
theorem dX5_insertsWord_17 : decode cX5_insertsWord 17 = .ok (.invokevirtual 157, 3) := by decide +kernel
theorem dX5_insertsWord_20 : decode cX5_insertsWord 20 = .ok (.iinc 7 1, 3) := by decide +kernel
theorem dX5_insertsWord_23 : decode cX5_insertsWord 23 = .ok (.aload_n 0, 1) := by decide +kernel
theorem dX5_insertsWord_24 : decode cX5_insertsWord 24 = .ok (.iload 7, 2) := by decide +kernel
theorem dX5_insertsWord_26 : decode cX5_insertsWord 26 = .ok (.iload 4, 2) := by decide +kernel
theorem dX5_insertsWord_28 : decode cX5_insertsWord 28 = .ok (.invokevirtual 157, 3) := by decide +kernel
theorem dX5_insertsWord_31 : decode cX5_insertsWord 31 = .ok (.iinc 7 1, 3) := by decide +kernel
theorem dX5_insertsWord_34 : decode cX5_insertsWord 34 = .ok (.aload_n 0, 1) := by decide +kernel
theorem dX5_insertsWord_35 : decode cX5_insertsWord 35 = .ok (.iload 7, 2) := by decide +kernel
theorem dX5_insertsWord_37 : decode cX5_insertsWord 37 = .ok (.iload 5, 2) := by decide +kernel
theorem dX5_insertsWord_39 : decode cX5_insertsWord 39 = .ok (.invokevirtual 157, 3) := by decide +kernel
theorem dX5_insertsWord_42 : decode cX5_insertsWord 42 = .ok (.iinc 7 1, 3) := by decide +kernel
theorem dX5_insertsWord_45 : decode cX5_insertsWord 45 = .ok (.aload_n 0, 1) := by decide +kernel
theorem dX5_insertsWord_46 : decode cX5_insertsWord 46 = .ok (.iload 7, 2) := by decide +kernel
theorem dX5_insertsWord_48 : decode cX5_insertsWord 48 = .ok (.iload 6, 2) := by decide +kernel
theorem dX5_insertsWord_50 : decode cX5_insertsWord 50 = .ok (.invokevirtual 157, 3) := by decide +kernel
theorem dX5_insertsWord_53 : decode cX5_insertsWord 53 = .ok (.iload 7, 2) := by decide +kernel
theorem dX5_insertsWord_55 : decode cX5_insertsWord 55 = .ok (.iconst 1, 1) := by decide +kernel
theorem dX5_insertsWord_56 : decode cX5_insertsWord 56 = .ok (.iadd, 1) := by decide +kernel
theorem dX5_insertsWord_57 : decode cX5_insertsWord 57 = .ok (.ireturn, 1) := by decide +kernel
theorem dX5_joinsText_0 : decode cX5_joinsText 0 = .ok (.aload_n 0, 1) := by decide +kernel
theorem dX5_joinsText_1 : decode cX5_joinsText 1 = .ok (.aload_n 0, 1) := by decide +kernel
theorem dX5_joinsText_2 : decode cX5_joinsText 2 = .ok (.getfield 154, 3) := by decide +kernel
theorem dX5_joinsText_5 : decode cX5_joinsText 5 = .ok (.bipush 41, 2) := by decide +kernel
theorem dX5_joinsText_7 : decode cX5_joinsText 7 = .ok (.invokevirtual 157, 3) := by decide +kernel
theorem dX5_joinsText_10 : decode cX5_joinsText 10 = .ok (.iload_n 1, 1) := by decide +kernel
theorem dX5_joinsText_11 : decode cX5_joinsText 11 = .ok (.iconst 2, 1) := by decide +kernel
theorem dX5_joinsText_12 : decode cX5_joinsText 12 = .ok (.if_icmp .ge 43, 3) := by decide +kernel
theorem dX5_joinsText_15 : decode cX5_joinsText 15 = .ok (.aload_n 0, 1) := by decide +kernel
theorem dX5_joinsText_16 : decode cX5_joinsText 16 = .ok (.iload_n 3, 1) := by decide +kernel
theorem dX5_joinsText_17 : decode cX5_joinsText 17 = .ok (.bipush 32, 2) := by decide +kernel
theorem dX5_joinsText_19 : decode cX5_joinsText 19 = .ok (.invokevirtual 157, 3) := by decide +kernel
theorem dX5_joinsText_22 : decode cX5_joinsText 22 = .ok (.aload_n 0, 1) := by decide +kernel
theorem dX5_joinsText_23 : decode cX5_joinsText 23 = .ok (.iload_n 3, 1) := by decide +kernel
theorem dX5_joinsText_24 : decode cX5_joinsText 24 = .ok (.iload_n 1, 1) := by decide +kernel
theorem dX5_joinsText_25 : decode cX5_joinsText 25 = .ok (.ifCond .ne 8, 3) := by decide +kernel
theorem dX5_joinsText_28 : decode cX5_joinsText 28 = .ok (.bipush 43, 2) := by decide +kernel
theorem dX5_joinsText_30 : decode cX5_joinsText 30 = .ok (.goto 5, 3) := by decide +kernel
theorem dX5_joinsText_33 : decode cX5_joinsText 33 = .ok (.bipush 45, 2) := by decide +kernel
theorem dX5_joinsText_35 : decode cX5_joinsText 35 = .ok (.invokevirtual 157, 3) := by decide +kernel
theorem dX5_joinsText_38 : decode cX5_joinsText 38 = .ok (.aload_n 0, 1) := by decide +kernel
theorem dX5_joinsText_39 : decode cX5_joinsText 39 = .ok (.iload_n 3, 1) := by decide +kernel
theorem dX5_joinsText_40 : decode cX5_joinsText 40 = .ok (.bipush 32, 2) := by decide +kernel
theorem dX5_joinsText_42 : decode cX5_joinsText 42 = .ok (.invokevirtual 157, 3) := by decide +kernel
theorem dX5_joinsText_45 : decode cX5_joinsText 45 = .ok (.aload_n 0, 1) := by decide +kernel
theorem dX5_joinsText_46 : decode cX5_joinsText 46 = .ok (.iload_n 2, 1) := by decide +kernel
theorem dX5_joinsText_47 : decode cX5_joinsText 47 = .ok (.bipush 40, 2) := by decide +kernel
theorem dX5_joinsText_49 : decode cX5_joinsText 49 = .ok (.invokevirtual 157, 3) := by decide +kernel
theorem dX5_joinsText_52 : decode cX5_joinsText 52 = .ok (.goto 65, 3) := by decide +kernel
theorem dX5_joinsText_55 : decode cX5_joinsText 55 = .ok (.aload_n 0, 1) := by decide +kernel
theorem dX5_joinsText_56 : decode cX5_joinsText 56 = .ok (.iload_n 3, 1) := by decide +kernel
theorem dX5_joinsText_57 : decode cX5_joinsText 57 = .ok (.bipush 32, 2) := by decide +kernel
theorem dX5_joinsText_59 : decode cX5_joinsText 59 = .ok (.invokevirtual 157, 3) := by decide +kernel
theorem dX5_joinsText_62 : decode cX5_joinsText 62 = .ok (.aload_n 0, 1) := by decide +kernel
theorem dX5_joinsText_63 : decode cX5_joinsText 63 = .ok (.iload_n 3, 1) := by decide +kernel
theorem dX5_joinsText_64 : decode cX5_joinsText 64 = .ok (.bipush 44, 2) := by decide +kernel
theorem dX5_joinsText_66 : decode cX5_joinsText 66 = .ok (.invokevirtual 157, 3) := by decide +kernel
theorem dX5_joinsText_69 : decode cX5_joinsText 69 = .ok (.aload_n 0, 1) := by decide +kernel
theorem dX5_joinsText_70 : decode cX5_joinsText 70 = .ok (.iload_n 2, 1) := by decide +kernel
theorem dX5_joinsText_71 : decode cX5_joinsText 71 = .ok (.bipush 40, 2) := by decide +kernel
theorem dX5_joinsText_73 : decode cX5_joinsText 73 = .ok (.invokevirtual 157, 3) := by decide +kernel
theorem dX5_joinsText_76 : decode cX5_joinsText 76 = .ok (.aload_n 0, 1) := by decide +kernel
theorem dX5_joinsText_77 : decode cX5_joinsText 77 = .ok (.iload_n 2, 1) := by decide +kernel
theorem dX5_joinsText_78 : decode cX5_joinsText 78 = .ok (.iload_n 1, 1) := by decide +kernel
theorem dX5_joinsText_79 : decode cX5_joinsText 79 = .ok (.iconst 2, 1) := by decide +kernel
theorem dX5_joinsText_80 : decode cX5_joinsText 80 = .ok (.if_icmp .ne 8, 3) := by decide +kernel
theorem dX5_joinsText_83 : decode cX5_joinsText 83 = .ok (.bipush 110, 2) := by decide +kernel
theorem dX5_joinsText_85 : decode cX5_joinsText 85 = .ok (.goto 5, 3) := by decide +kernel
theorem dX5_joinsText_88 : decode cX5_joinsText 88 = .ok (.bipush 120, 2) := by decide +kernel
theorem dX5_joinsText_90 : decode cX5_joinsText 90 = .ok (.invokevirtual 157, 3) := by decide +kernel
theorem dX5_joinsText_93 : decode cX5_joinsText 93 = .ok (.aload_n 0, 1) := by decide +kernel
theorem dX5_joinsText_94 : decode cX5_joinsText 94 = .ok (.iload_n 2, 1) := by decide +kernel
theorem dX5_joinsText_95 : decode cX5_joinsText 95 = .ok (.iload_n 1, 1) := by decide +kernel
theorem dX5_joinsText_96 : decode cX5_joinsText 96 = .ok (.iconst 2, 1) := by decide +kernel
theorem dX5_joinsText_97 : decode cX5_joinsText 97 = .ok (.if_icmp .ne 8, 3) := by decide +kernel
theorem dX5_joinsText_100 : decode cX5_joinsText 100 = .ok (.bipush 105, 2) := by decide +kernel
theorem dX5_joinsText_102 : decode cX5_joinsText 102 = .ok (.goto 5, 3) := by decide +kernel
theorem dX5_joinsText_105 : decode cX5_joinsText 105 = .ok (.bipush 97, 2) := by decide +kernel
theorem dX5_joinsText_107 : decode cX5_joinsText 107 = .ok (.invokevirtual 157, 3) := by decide +kernel
theorem dX5_joinsText_110 : decode cX5_joinsText 110 = .ok (.aload_n 0, 1) := by decide +kernel
theorem dX5_joinsText_111 : decode cX5_joinsText 111 = .ok (.iload_n 2, 1) := by decide +kernel
theorem dX5_joinsText_112 : decode cX5_joinsText 112 = .ok (.bipush 109, 2) := by decide +kernel
theorem dX5_joinsText_114 : decode cX5_joinsText 114 = .ok (.invokevirtual 157, 3) := by decide +kernel
theorem dX5_joinsText_117 : decode cX5_joinsText 117 = .ok (.return_, 1) := by decide +kernel
theorem dX5_writes_0 : decode cX5_writes 0 = .ok (.iconst 0, 1) := by decide +kernel
theorem dX5_writes_1 : decode cX5_writes 1 = .ok (.istore_n 2, 1) := by decide +kernel
theorem dX5_writes_2 : decode cX5_writes 2 = .ok (.aload_n 0, 1) := by decide +kernel
theorem dX5_writes_3 : decode cX5_writes 3 = .ok (.iconst 0, 1) := by decide +kernel
theorem dX5_writes_4 : decode cX5_writes 4 = .ok (.putfield 154, 3) := by decide +kernel
theorem dX5_writes_7 : decode cX5_writes 7 = .ok (.iconst 0, 1) := by decide +kernel
theorem dX5_writes_8 : decode cX5_writes 8 = .ok (.istore_n 3, 1) := by decide +kernel
theorem dX5_writes_9 : decode cX5_writes 9 = .ok (.iload_n 3, 1) := by decide +kernel
theorem dX5_writes_10 : decode cX5_writes 10 = .ok (.aload_n 0, 1) := by decide +kernel
theorem dX5_writes_11 : decode cX5_writes 11 = .ok (.getfield 28, 3) := by decide +kernel
theorem dX5_writes_14 : decode cX5_writes 14 = .ok (.iload_n 1, 1) := by decide +kernel
theorem dX5_writes_15 : decode cX5_writes 15 = .ok (.iaload, 1) := by decide +kernel
theorem dX5_writes_16 : decode cX5_writes 16 = .ok (.if_icmp .ge 208, 3) := by decide +kernel
theorem dX5_writes_19 : decode cX5_writes 19 = .ok (.aload_n 0, 1) := by decide +kernel
theorem dX5_writes_20 : decode cX5_writes 20 = .ok (.getfield 31, 3) := by decide +kernel
theorem dX5_writes_23 : decode cX5_writes 23 = .ok (.bipush 64, 2) := by decide +kernel
theorem dX5_writes_25 : decode cX5_writes 25 = .ok (.iload_n 1, 1) := by decide +kernel
theorem dX5_writes_26 : decode cX5_writes 26 = .ok (.imul, 1) := by decide +kernel
theorem dX5_writes_27 : decode cX5_writes 27 = .ok (.iload_n 3, 1) := by decide +kernel
theorem dX5_writes_28 : decode cX5_writes 28 = .ok (.iadd, 1) := by decide +kernel
theorem dX5_writes_29 : decode cX5_writes 29 = .ok (.iaload, 1) := by decide +kernel
theorem dX5_writes_30 : decode cX5_writes 30 = .ok (.istore 4, 2) := by decide +kernel
theorem dX5_writes_32 : decode cX5_writes 32 = .ok (.aload_n 0, 1) := by decide +kernel
theorem dX5_writes_33 : decode cX5_writes 33 = .ok (.getfield 34, 3) := by decide +kernel
theorem dX5_writes_36 : decode cX5_writes 36 = .ok (.bipush 64, 2) := by decide +kernel
theorem dX5_writes_38 : decode cX5_writes 38 = .ok (.iload_n 1, 1) := by decide +kernel
theorem dX5_writes_39 : decode cX5_writes 39 = .ok (.imul, 1) := by decide +kernel
theorem dX5_writes_40 : decode cX5_writes 40 = .ok (.iload_n 3, 1) := by decide +kernel
theorem dX5_writes_41 : decode cX5_writes 41 = .ok (.iadd, 1) := by decide +kernel
theorem dX5_writes_42 : decode cX5_writes 42 = .ok (.iaload, 1) := by decide +kernel
theorem dX5_writes_43 : decode cX5_writes 43 = .ok (.istore 5, 2) := by decide +kernel
theorem dX5_writes_45 : decode cX5_writes 45 = .ok (.iload 4, 2) := by decide +kernel
theorem dX5_writes_47 : decode cX5_writes 47 = .ok (.iconst 4, 1) := by decide +kernel
theorem dX5_writes_48 : decode cX5_writes 48 = .ok (.bipush 6, 2) := by decide +kernel
theorem dX5_writes_50 : decode cX5_writes 50 = .ok (.invokestatic 89, 3) := by decide +kernel
theorem dX5_writes_53 : decode cX5_writes 53 = .ok (.ifCond .eq 57, 3) := by decide +kernel
theorem dX5_writes_56 : decode cX5_writes 56 = .ok (.aload_n 0, 1) := by decide +kernel
theorem dX5_writes_57 : decode cX5_writes 57 = .ok (.getfield 48, 3) := by decide +kernel
theorem dX5_writes_60 : decode cX5_writes 60 = .ok (.iload_n 2, 1) := by decide +kernel
theorem dX5_writes_61 : decode cX5_writes 61 = .ok (.aload_n 0, 1) := by decide +kernel
theorem dX5_writes_62 : decode cX5_writes 62 = .ok (.getfield 154, 3) := by decide +kernel
theorem dX5_writes_65 : decode cX5_writes 65 = .ok (.iastore, 1) := by decide +kernel
theorem dX5_writes_66 : decode cX5_writes 66 = .ok (.iinc 2 1, 3) := by decide +kernel
theorem dX5_writes_69 : decode cX5_writes 69 = .ok (.iload 4, 2) := by decide +kernel
theorem dX5_writes_71 : decode cX5_writes 71 = .ok (.iconst 5, 1) := by decide +kernel
theorem dX5_writes_72 : decode cX5_writes 72 = .ok (.if_icmp .eq 24, 3) := by decide +kernel
theorem dX5_writes_75 : decode cX5_writes 75 = .ok (.aload_n 0, 1) := by decide +kernel
theorem dX5_writes_76 : decode cX5_writes 76 = .ok (.aload_n 0, 1) := by decide +kernel
theorem dX5_writes_77 : decode cX5_writes 77 = .ok (.getfield 154, 3) := by decide +kernel
theorem dX5_writes_80 : decode cX5_writes 80 = .ok (.iload 4, 2) := by decide +kernel
theorem dX5_writes_82 : decode cX5_writes 82 = .ok (.iconst 4, 1) := by decide +kernel
theorem dX5_writes_83 : decode cX5_writes 83 = .ok (.if_icmp .ne 8, 3) := by decide +kernel
theorem dX5_writes_86 : decode cX5_writes 86 = .ok (.bipush 65, 2) := by decide +kernel
theorem dX5_writes_88 : decode cX5_writes 88 = .ok (.goto 5, 3) := by decide +kernel
theorem dX5_writes_91 : decode cX5_writes 91 = .ok (.bipush 84, 2) := by decide +kernel
theorem dX5_writes_93 : decode cX5_writes 93 = .ok (.invokevirtual 157, 3) := by decide +kernel
theorem dX5_writes_96 : decode cX5_writes 96 = .ok (.aload_n 0, 1) := by decide +kernel
theorem dX5_writes_97 : decode cX5_writes 97 = .ok (.aload_n 0, 1) := by decide +kernel
theorem dX5_writes_98 : decode cX5_writes 98 = .ok (.getfield 154, 3) := by decide +kernel
theorem dX5_writes_101 : decode cX5_writes 101 = .ok (.iload 5, 2) := by decide +kernel
theorem dX5_writes_103 : decode cX5_writes 103 = .ok (.invokevirtual 161, 3) := by decide +kernel
theorem dX5_writes_106 : decode cX5_writes 106 = .ok (.pop, 1) := by decide +kernel
theorem dX5_writes_107 : decode cX5_writes 107 = .ok (.goto 111, 3) := by decide +kernel
theorem dX5_writes_110 : decode cX5_writes 110 = .ok (.iload 4, 2) := by decide +kernel
theorem dX5_writes_112 : decode cX5_writes 112 = .ok (.iconst 4, 1) := by decide +kernel
theorem dX5_writes_113 : decode cX5_writes 113 = .ok (.if_icmp .ge 29, 3) := by decide +kernel
theorem dX5_writes_116 : decode cX5_writes 116 = .ok (.iinc 2 (-1), 3) := by decide +kernel
theorem dX5_writes_119 : decode cX5_writes 119 = .ok (.aload_n 0, 1) := by decide +kernel
theorem dX5_writes_120 : decode cX5_writes 120 = .ok (.iload 4, 2) := by decide +kernel
theorem dX5_writes_122 : decode cX5_writes 122 = .ok (.aload_n 0, 1) := by decide +kernel
theorem dX5_writes_123 : decode cX5_writes 123 = .ok (.getfield 48, 3) := by decide +kernel
theorem dX5_writes_126 : decode cX5_writes 126 = .ok (.iload_n 2, 1) := by decide +kernel
theorem dX5_writes_127 : decode cX5_writes 127 = .ok (.iconst 1, 1) := by decide +kernel
theorem dX5_writes_128 : decode cX5_writes 128 = .ok (.isub, 1) := by decide +kernel
theorem dX5_writes_129 : decode cX5_writes 129 = .ok (.iaload, 1) := by decide +kernel
theorem dX5_writes_130 : decode cX5_writes 130 = .ok (.aload_n 0, 1) := by decide +kernel
theorem dX5_writes_131 : decode cX5_writes 131 = .ok (.getfield 48, 3) := by decide +kernel
theorem dX5_writes_134 : decode cX5_writes 134 = .ok (.iload_n 2, 1) := by decide +kernel
theorem dX5_writes_135 : decode cX5_writes 135 = .ok (.iaload, 1) := by decide +kernel
theorem dX5_writes_136 : decode cX5_writes 136 = .ok (.invokevirtual 164, 3) := by decide +kernel
theorem dX5_writes_139 : decode cX5_writes 139 = .ok (.goto 79, 3) := by decide +kernel
theorem dX5_writes_142 : decode cX5_writes 142 = .ok (.iload 4, 2) := by decide +kernel
theorem dX5_writes_144 : decode cX5_writes 144 = .ok (.bipush 7, 2) := by decide +kernel
theorem dX5_writes_146 : decode cX5_writes 146 = .ok (.if_icmp .ne 39, 3) := by decide +kernel
theorem dX5_writes_149 : decode cX5_writes 149 = .ok (.aload_n 0, 1) := by decide +kernel
theorem dX5_writes_150 : decode cX5_writes 150 = .ok (.aload_n 0, 1) := by decide +kernel
theorem dX5_writes_151 : decode cX5_writes 151 = .ok (.getfield 48, 3) := by decide +kernel
theorem dX5_writes_154 : decode cX5_writes 154 = .ok (.iload_n 2, 1) := by decide +kernel
theorem dX5_writes_155 : decode cX5_writes 155 = .ok (.iconst 1, 1) := by decide +kernel
theorem dX5_writes_156 : decode cX5_writes 156 = .ok (.isub, 1) := by decide +kernel
theorem dX5_writes_157 : decode cX5_writes 157 = .ok (.iaload, 1) := by decide +kernel
theorem dX5_writes_158 : decode cX5_writes 158 = .ok (.iload 5, 2) := by decide +kernel
theorem dX5_writes_160 : decode cX5_writes 160 = .ok (.invokevirtual 161, 3) := by decide +kernel
theorem dX5_writes_163 : decode cX5_writes 163 = .ok (.istore 6, 2) := by decide +kernel
theorem dX5_writes_165 : decode cX5_writes 165 = .ok (.aload_n 0, 1) := by decide +kernel
theorem dX5_writes_166 : decode cX5_writes 166 = .ok (.iload 6, 2) := by decide +kernel
theorem dX5_writes_168 : decode cX5_writes 168 = .ok (.bipush 37, 2) := by decide +kernel
theorem dX5_writes_170 : decode cX5_writes 170 = .ok (.bipush 32, 2) := by decide +kernel
theorem dX5_writes_172 : decode cX5_writes 172 = .ok (.bipush 111, 2) := by decide +kernel
theorem dX5_writes_174 : decode cX5_writes 174 = .ok (.bipush 102, 2) := by decide +kernel
theorem dX5_writes_176 : decode cX5_writes 176 = .ok (.bipush 32, 2) := by decide +kernel
theorem dX5_writes_178 : decode cX5_writes 178 = .ok (.invokevirtual 167, 3) := by decide +kernel
theorem dX5_writes_181 : decode cX5_writes 181 = .ok (.pop, 1) := by decide +kernel
theorem dX5_writes_182 : decode cX5_writes 182 = .ok (.goto 36, 3) := by decide +kernel
theorem dX5_writes_185 : decode cX5_writes 185 = .ok (.aload_n 0, 1) := by decide +kernel
theorem dX5_writes_186 : decode cX5_writes 186 = .ok (.aload_n 0, 1) := by decide +kernel
theorem dX5_writes_187 : decode cX5_writes 187 = .ok (.getfield 48, 3) := by decide +kernel
theorem dX5_writes_190 : decode cX5_writes 190 = .ok (.iload_n 2, 1) := by decide +kernel
theorem dX5_writes_191 : decode cX5_writes 191 = .ok (.iconst 1, 1) := by decide +kernel
theorem dX5_writes_192 : decode cX5_writes 192 = .ok (.isub, 1) := by decide +kernel
theorem dX5_writes_193 : decode cX5_writes 193 = .ok (.iaload, 1) := by decide +kernel
theorem dX5_writes_194 : decode cX5_writes 194 = .ok (.bipush 121, 2) := by decide +kernel
theorem dX5_writes_196 : decode cX5_writes 196 = .ok (.bipush 101, 2) := by decide +kernel
theorem dX5_writes_198 : decode cX5_writes 198 = .ok (.bipush 97, 2) := by decide +kernel
theorem dX5_writes_200 : decode cX5_writes 200 = .ok (.bipush 114, 2) := by decide +kernel
theorem dX5_writes_202 : decode cX5_writes 202 = .ok (.bipush 40, 2) := by decide +kernel
theorem dX5_writes_204 : decode cX5_writes 204 = .ok (.invokevirtual 167, 3) := by decide +kernel
theorem dX5_writes_207 : decode cX5_writes 207 = .ok (.pop, 1) := by decide +kernel
theorem dX5_writes_208 : decode cX5_writes 208 = .ok (.aload_n 0, 1) := by decide +kernel
theorem dX5_writes_209 : decode cX5_writes 209 = .ok (.aload_n 0, 1) := by decide +kernel
theorem dX5_writes_210 : decode cX5_writes 210 = .ok (.getfield 154, 3) := by decide +kernel
theorem dX5_writes_213 : decode cX5_writes 213 = .ok (.bipush 41, 2) := by decide +kernel
theorem dX5_writes_215 : decode cX5_writes 215 = .ok (.invokevirtual 157, 3) := by decide +kernel
theorem dX5_writes_218 : decode cX5_writes 218 = .ok (.iinc 3 1, 3) := by decide +kernel
theorem dX5_writes_221 : decode cX5_writes 221 = .ok (.goto (-212), 3) := by decide +kernel
theorem dX5_writes_224 : decode cX5_writes 224 = .ok (.return_, 1) := by decide +kernel
theorem dX5_textLength_0 : decode cX5_textLength 0 = .ok (.aload_n 0, 1) := by decide +kernel
theorem dX5_textLength_1 : decode cX5_textLength 1 = .ok (.aload_n 0, 1) := by decide +kernel
theorem dX5_textLength_2 : decode cX5_textLength 2 = .ok (.iload_n 1, 1) := by decide +kernel
theorem dX5_textLength_3 : decode cX5_textLength 3 = .ok (.invokevirtual 116, 3) := by decide +kernel
theorem dX5_textLength_6 : decode cX5_textLength 6 = .ok (.ifCond .eq 14, 3) := by decide +kernel
theorem dX5_textLength_9 : decode cX5_textLength 9 = .ok (.iload_n 2, 1) := by decide +kernel
theorem dX5_textLength_10 : decode cX5_textLength 10 = .ok (.invokestatic 100, 3) := by decide +kernel
theorem dX5_textLength_13 : decode cX5_textLength 13 = .ok (.ifCond .eq 7, 3) := by decide +kernel
theorem dX5_textLength_16 : decode cX5_textLength 16 = .ok (.iconst 0, 1) := by decide +kernel
theorem dX5_textLength_17 : decode cX5_textLength 17 = .ok (.goto 4, 3) := by decide +kernel
theorem dX5_textLength_20 : decode cX5_textLength 20 = .ok (.iconst 1, 1) := by decide +kernel
theorem dX5_textLength_21 : decode cX5_textLength 21 = .ok (.putfield 85, 3) := by decide +kernel
theorem dX5_textLength_24 : decode cX5_textLength 24 = .ok (.aload_n 0, 1) := by decide +kernel
theorem dX5_textLength_25 : decode cX5_textLength 25 = .ok (.getfield 85, 3) := by decide +kernel
theorem dX5_textLength_28 : decode cX5_textLength 28 = .ok (.ifCond .le 5, 3) := by decide +kernel
theorem dX5_textLength_31 : decode cX5_textLength 31 = .ok (.iconst 0, 1) := by decide +kernel
theorem dX5_textLength_32 : decode cX5_textLength 32 = .ok (.ireturn, 1) := by decide +kernel
theorem dX5_textLength_33 : decode cX5_textLength 33 = .ok (.aload_n 0, 1) := by decide +kernel
theorem dX5_textLength_34 : decode cX5_textLength 34 = .ok (.aload_n 0, 1) := by decide +kernel
theorem dX5_textLength_35 : decode cX5_textLength 35 = .ok (.iload_n 1, 1) := by decide +kernel
theorem dX5_textLength_36 : decode cX5_textLength 36 = .ok (.iload_n 2, 1) := by decide +kernel
theorem dX5_textLength_37 : decode cX5_textLength 37 = .ok (.invokevirtual 171, 3) := by decide +kernel
theorem dX5_textLength_40 : decode cX5_textLength 40 = .ok (.invokevirtual 174, 3) := by decide +kernel
theorem dX5_textLength_43 : decode cX5_textLength 43 = .ok (.aload_n 0, 1) := by decide +kernel
theorem dX5_textLength_44 : decode cX5_textLength 44 = .ok (.getfield 154, 3) := by decide +kernel
theorem dX5_textLength_47 : decode cX5_textLength 47 = .ok (.ireturn, 1) := by decide +kernel
theorem dX5_textChar_0 : decode cX5_textChar 0 = .ok (.aload_n 0, 1) := by decide +kernel
theorem dX5_textChar_1 : decode cX5_textChar 1 = .ok (.aload_n 0, 1) := by decide +kernel
theorem dX5_textChar_2 : decode cX5_textChar 2 = .ok (.iload_n 1, 1) := by decide +kernel
theorem dX5_textChar_3 : decode cX5_textChar 3 = .ok (.invokevirtual 116, 3) := by decide +kernel
theorem dX5_textChar_6 : decode cX5_textChar 6 = .ok (.ifCond .eq 14, 3) := by decide +kernel
theorem dX5_textChar_9 : decode cX5_textChar 9 = .ok (.iload_n 2, 1) := by decide +kernel
theorem dX5_textChar_10 : decode cX5_textChar 10 = .ok (.invokestatic 100, 3) := by decide +kernel
theorem dX5_textChar_13 : decode cX5_textChar 13 = .ok (.ifCond .eq 7, 3) := by decide +kernel
theorem dX5_textChar_16 : decode cX5_textChar 16 = .ok (.iconst 0, 1) := by decide +kernel
theorem dX5_textChar_17 : decode cX5_textChar 17 = .ok (.goto 4, 3) := by decide +kernel
theorem dX5_textChar_20 : decode cX5_textChar 20 = .ok (.iconst 1, 1) := by decide +kernel
theorem dX5_textChar_21 : decode cX5_textChar 21 = .ok (.putfield 85, 3) := by decide +kernel
theorem dX5_textChar_24 : decode cX5_textChar 24 = .ok (.aload_n 0, 1) := by decide +kernel
theorem dX5_textChar_25 : decode cX5_textChar 25 = .ok (.getfield 85, 3) := by decide +kernel
theorem dX5_textChar_28 : decode cX5_textChar 28 = .ok (.ifCond .le 6, 3) := by decide +kernel
theorem dX5_textChar_31 : decode cX5_textChar 31 = .ok (.bipush 32, 2) := by decide +kernel
theorem dX5_textChar_33 : decode cX5_textChar 33 = .ok (.ireturn, 1) := by decide +kernel
theorem dX5_textChar_34 : decode cX5_textChar 34 = .ok (.aload_n 0, 1) := by decide +kernel
theorem dX5_textChar_35 : decode cX5_textChar 35 = .ok (.aload_n 0, 1) := by decide +kernel
theorem dX5_textChar_36 : decode cX5_textChar 36 = .ok (.iload_n 1, 1) := by decide +kernel
theorem dX5_textChar_37 : decode cX5_textChar 37 = .ok (.iload_n 2, 1) := by decide +kernel
theorem dX5_textChar_38 : decode cX5_textChar 38 = .ok (.invokevirtual 171, 3) := by decide +kernel
theorem dX5_textChar_41 : decode cX5_textChar 41 = .ok (.invokevirtual 174, 3) := by decide +kernel
theorem dX5_textChar_44 : decode cX5_textChar 44 = .ok (.aload_n 0, 1) := by decide +kernel
theorem dX5_textChar_45 : decode cX5_textChar 45 = .ok (.iload_n 3, 1) := by decide +kernel
theorem dX5_textChar_46 : decode cX5_textChar 46 = .ok (.iconst 0, 1) := by decide +kernel
theorem dX5_textChar_47 : decode cX5_textChar 47 = .ok (.aload_n 0, 1) := by decide +kernel
theorem dX5_textChar_48 : decode cX5_textChar 48 = .ok (.getfield 154, 3) := by decide +kernel
theorem dX5_textChar_51 : decode cX5_textChar 51 = .ok (.iconst 1, 1) := by decide +kernel
theorem dX5_textChar_52 : decode cX5_textChar 52 = .ok (.isub, 1) := by decide +kernel
theorem dX5_textChar_53 : decode cX5_textChar 53 = .ok (.invokestatic 89, 3) := by decide +kernel
theorem dX5_textChar_56 : decode cX5_textChar 56 = .ok (.ifCond .eq 7, 3) := by decide +kernel
theorem dX5_textChar_59 : decode cX5_textChar 59 = .ok (.iconst 0, 1) := by decide +kernel
theorem dX5_textChar_60 : decode cX5_textChar 60 = .ok (.goto 4, 3) := by decide +kernel
theorem dX5_textChar_63 : decode cX5_textChar 63 = .ok (.iconst 1, 1) := by decide +kernel
theorem dX5_textChar_64 : decode cX5_textChar 64 = .ok (.putfield 85, 3) := by decide +kernel
theorem dX5_textChar_67 : decode cX5_textChar 67 = .ok (.aload_n 0, 1) := by decide +kernel
theorem dX5_textChar_68 : decode cX5_textChar 68 = .ok (.getfield 85, 3) := by decide +kernel
theorem dX5_textChar_71 : decode cX5_textChar 71 = .ok (.ifCond .le 8, 3) := by decide +kernel
theorem dX5_textChar_74 : decode cX5_textChar 74 = .ok (.bipush 32, 2) := by decide +kernel
theorem dX5_textChar_76 : decode cX5_textChar 76 = .ok (.goto 9, 3) := by decide +kernel
theorem dX5_textChar_79 : decode cX5_textChar 79 = .ok (.aload_n 0, 1) := by decide +kernel
theorem dX5_textChar_80 : decode cX5_textChar 80 = .ok (.getfield 44, 3) := by decide +kernel
theorem dX5_textChar_83 : decode cX5_textChar 83 = .ok (.iload_n 3, 1) := by decide +kernel
theorem dX5_textChar_84 : decode cX5_textChar 84 = .ok (.caload, 1) := by decide +kernel
theorem dX5_textChar_85 : decode cX5_textChar 85 = .ok (.ireturn, 1) := by decide +kernel
theorem dX5_isTest_0 : decode cX5_isTest 0 = .ok (.iload_n 1, 1) := by decide +kernel
theorem dX5_isTest_1 : decode cX5_isTest 1 = .ok (.iconst 0, 1) := by decide +kernel
theorem dX5_isTest_2 : decode cX5_isTest 2 = .ok (.aload_n 0, 1) := by decide +kernel
theorem dX5_isTest_3 : decode cX5_isTest 3 = .ok (.getfield 177, 3) := by decide +kernel
theorem dX5_isTest_6 : decode cX5_isTest 6 = .ok (.iconst 1, 1) := by decide +kernel
theorem dX5_isTest_7 : decode cX5_isTest 7 = .ok (.isub, 1) := by decide +kernel
theorem dX5_isTest_8 : decode cX5_isTest 8 = .ok (.invokestatic 89, 3) := by decide +kernel
theorem dX5_isTest_11 : decode cX5_isTest 11 = .ok (.ireturn, 1) := by decide +kernel
theorem dX5_test_0 : decode cX5_test 0 = .ok (.aload_n 0, 1) := by decide +kernel
theorem dX5_test_1 : decode cX5_test 1 = .ok (.aload_n 0, 1) := by decide +kernel
theorem dX5_test_2 : decode cX5_test 2 = .ok (.iload_n 1, 1) := by decide +kernel
theorem dX5_test_3 : decode cX5_test 3 = .ok (.invokevirtual 116, 3) := by decide +kernel
theorem dX5_test_6 : decode cX5_test 6 = .ok (.ifCond .eq 11, 3) := by decide +kernel
theorem dX5_test_9 : decode cX5_test 9 = .ok (.aload_n 0, 1) := by decide +kernel
theorem dX5_test_10 : decode cX5_test 10 = .ok (.iload_n 2, 1) := by decide +kernel
theorem dX5_test_11 : decode cX5_test 11 = .ok (.invokevirtual 116, 3) := by decide +kernel
theorem dX5_test_14 : decode cX5_test 14 = .ok (.ifCond .ne 7, 3) := by decide +kernel
theorem dX5_test_17 : decode cX5_test 17 = .ok (.iconst 1, 1) := by decide +kernel
theorem dX5_test_18 : decode cX5_test 18 = .ok (.goto 17, 3) := by decide +kernel
theorem dX5_test_21 : decode cX5_test 21 = .ok (.aload_n 0, 1) := by decide +kernel
theorem dX5_test_22 : decode cX5_test 22 = .ok (.getfield 177, 3) := by decide +kernel
theorem dX5_test_25 : decode cX5_test 25 = .ok (.bipush 6, 2) := by decide +kernel
theorem dX5_test_27 : decode cX5_test 27 = .ok (.if_icmp .ne 7, 3) := by decide +kernel
theorem dX5_test_30 : decode cX5_test 30 = .ok (.iconst 2, 1) := by decide +kernel
theorem dX5_test_31 : decode cX5_test 31 = .ok (.goto 4, 3) := by decide +kernel
theorem dX5_test_34 : decode cX5_test 34 = .ok (.iconst 0, 1) := by decide +kernel
theorem dX5_test_35 : decode cX5_test 35 = .ok (.putfield 85, 3) := by decide +kernel
theorem dX5_test_38 : decode cX5_test 38 = .ok (.aload_n 0, 1) := by decide +kernel
theorem dX5_test_39 : decode cX5_test 39 = .ok (.getfield 85, 3) := by decide +kernel
theorem dX5_test_42 : decode cX5_test 42 = .ok (.ifCond .le 5, 3) := by decide +kernel
theorem dX5_test_45 : decode cX5_test 45 = .ok (.iconst 0, 1) := by decide +kernel
theorem dX5_test_46 : decode cX5_test 46 = .ok (.ireturn, 1) := by decide +kernel
theorem dX5_test_47 : decode cX5_test 47 = .ok (.aload_n 0, 1) := by decide +kernel
theorem dX5_test_48 : decode cX5_test 48 = .ok (.getfield 51, 3) := by decide +kernel
theorem dX5_test_51 : decode cX5_test 51 = .ok (.aload_n 0, 1) := by decide +kernel
theorem dX5_test_52 : decode cX5_test 52 = .ok (.getfield 177, 3) := by decide +kernel
theorem dX5_test_55 : decode cX5_test 55 = .ok (.iload_n 1, 1) := by decide +kernel
theorem dX5_test_56 : decode cX5_test 56 = .ok (.iastore, 1) := by decide +kernel
theorem dX5_test_57 : decode cX5_test 57 = .ok (.aload_n 0, 1) := by decide +kernel
theorem dX5_test_58 : decode cX5_test 58 = .ok (.getfield 54, 3) := by decide +kernel
theorem dX5_test_61 : decode cX5_test 61 = .ok (.aload_n 0, 1) := by decide +kernel
theorem dX5_test_62 : decode cX5_test 62 = .ok (.getfield 177, 3) := by decide +kernel
theorem dX5_test_65 : decode cX5_test 65 = .ok (.iload_n 2, 1) := by decide +kernel
theorem dX5_test_66 : decode cX5_test 66 = .ok (.iastore, 1) := by decide +kernel
theorem dX5_test_67 : decode cX5_test 67 = .ok (.aload_n 0, 1) := by decide +kernel
theorem dX5_test_68 : decode cX5_test 68 = .ok (.dup, 1) := by decide +kernel
theorem dX5_test_69 : decode cX5_test 69 = .ok (.getfield 177, 3) := by decide +kernel
theorem dX5_test_72 : decode cX5_test 72 = .ok (.iconst 1, 1) := by decide +kernel
theorem dX5_test_73 : decode cX5_test 73 = .ok (.iadd, 1) := by decide +kernel
theorem dX5_test_74 : decode cX5_test 74 = .ok (.putfield 177, 3) := by decide +kernel
theorem dX5_test_77 : decode cX5_test 77 = .ok (.aload_n 0, 1) := by decide +kernel
theorem dX5_test_78 : decode cX5_test 78 = .ok (.getfield 177, 3) := by decide +kernel
theorem dX5_test_81 : decode cX5_test 81 = .ok (.iconst 1, 1) := by decide +kernel
theorem dX5_test_82 : decode cX5_test 82 = .ok (.isub, 1) := by decide +kernel
theorem dX5_test_83 : decode cX5_test 83 = .ok (.ireturn, 1) := by decide +kernel
theorem dX5_limit_0 : decode cX5_limit 0 = .ok (.aload_n 0, 1) := by decide +kernel
theorem dX5_limit_1 : decode cX5_limit 1 = .ok (.iload_n 1, 1) := by decide +kernel
theorem dX5_limit_2 : decode cX5_limit 2 = .ok (.invokevirtual 180, 3) := by decide +kernel
theorem dX5_limit_5 : decode cX5_limit 5 = .ok (.ifCond .eq 14, 3) := by decide +kernel
theorem dX5_limit_8 : decode cX5_limit 8 = .ok (.iload_n 2, 1) := by decide +kernel
theorem dX5_limit_9 : decode cX5_limit 9 = .ok (.invokestatic 100, 3) := by decide +kernel
theorem dX5_limit_12 : decode cX5_limit 12 = .ok (.ifCond .eq 7, 3) := by decide +kernel
theorem dX5_limit_15 : decode cX5_limit 15 = .ok (.iconst 1, 1) := by decide +kernel
theorem dX5_limit_16 : decode cX5_limit 16 = .ok (.goto 4, 3) := by decide +kernel
theorem dX5_limit_19 : decode cX5_limit 19 = .ok (.iconst 0, 1) := by decide +kernel
theorem dX5_limit_20 : decode cX5_limit 20 = .ok (.istore 4, 2) := by decide +kernel
theorem dX5_limit_22 : decode cX5_limit 22 = .ok (.aload_n 0, 1) := by decide +kernel
theorem dX5_limit_23 : decode cX5_limit 23 = .ok (.iload 4, 2) := by decide +kernel
theorem dX5_limit_25 : decode cX5_limit 25 = .ok (.ifCond .ne 7, 3) := by decide +kernel
theorem dX5_limit_28 : decode cX5_limit 28 = .ok (.iconst 1, 1) := by decide +kernel
theorem dX5_limit_29 : decode cX5_limit 29 = .ok (.goto 19, 3) := by decide +kernel
theorem dX5_limit_32 : decode cX5_limit 32 = .ok (.iload_n 3, 1) := by decide +kernel
theorem dX5_limit_33 : decode cX5_limit 33 = .ok (.iconst 0, 1) := by decide +kernel
theorem dX5_limit_34 : decode cX5_limit 34 = .ok (.sipush 10000, 3) := by decide +kernel
theorem dX5_limit_37 : decode cX5_limit 37 = .ok (.invokestatic 89, 3) := by decide +kernel
theorem dX5_limit_40 : decode cX5_limit 40 = .ok (.ifCond .eq 7, 3) := by decide +kernel
theorem dX5_limit_43 : decode cX5_limit 43 = .ok (.iconst 0, 1) := by decide +kernel
theorem dX5_limit_44 : decode cX5_limit 44 = .ok (.goto 4, 3) := by decide +kernel
theorem dX5_limit_47 : decode cX5_limit 47 = .ok (.iconst 2, 1) := by decide +kernel
theorem dX5_limit_48 : decode cX5_limit 48 = .ok (.putfield 85, 3) := by decide +kernel
theorem dX5_limit_51 : decode cX5_limit 51 = .ok (.aload_n 0, 1) := by decide +kernel
theorem dX5_limit_52 : decode cX5_limit 52 = .ok (.getfield 85, 3) := by decide +kernel
theorem dX5_limit_55 : decode cX5_limit 55 = .ok (.ifCond .le 5, 3) := by decide +kernel
theorem dX5_limit_58 : decode cX5_limit 58 = .ok (.iconst 0, 1) := by decide +kernel
theorem dX5_limit_59 : decode cX5_limit 59 = .ok (.ireturn, 1) := by decide +kernel
theorem dX5_limit_60 : decode cX5_limit 60 = .ok (.aload_n 0, 1) := by decide +kernel
theorem dX5_limit_61 : decode cX5_limit 61 = .ok (.getfield 57, 3) := by decide +kernel
theorem dX5_limit_64 : decode cX5_limit 64 = .ok (.bipush 20, 2) := by decide +kernel
theorem dX5_limit_66 : decode cX5_limit 66 = .ok (.iload_n 1, 1) := by decide +kernel
theorem dX5_limit_67 : decode cX5_limit 67 = .ok (.imul, 1) := by decide +kernel
theorem dX5_limit_68 : decode cX5_limit 68 = .ok (.iload_n 2, 1) := by decide +kernel
theorem dX5_limit_69 : decode cX5_limit 69 = .ok (.iadd, 1) := by decide +kernel
theorem dX5_limit_70 : decode cX5_limit 70 = .ok (.iload_n 3, 1) := by decide +kernel
theorem dX5_limit_71 : decode cX5_limit 71 = .ok (.iastore, 1) := by decide +kernel
theorem dX5_limit_72 : decode cX5_limit 72 = .ok (.iconst 0, 1) := by decide +kernel
theorem dX5_limit_73 : decode cX5_limit 73 = .ok (.istore 5, 2) := by decide +kernel
theorem dX5_limit_75 : decode cX5_limit 75 = .ok (.iconst 0, 1) := by decide +kernel
theorem dX5_limit_76 : decode cX5_limit 76 = .ok (.istore 6, 2) := by decide +kernel
theorem dX5_limit_78 : decode cX5_limit 78 = .ok (.iload 6, 2) := by decide +kernel
theorem dX5_limit_80 : decode cX5_limit 80 = .ok (.bipush 20, 2) := by decide +kernel
theorem dX5_limit_82 : decode cX5_limit 82 = .ok (.if_icmp .ge 35, 3) := by decide +kernel
theorem dX5_limit_85 : decode cX5_limit 85 = .ok (.iload 5, 2) := by decide +kernel
theorem dX5_limit_87 : decode cX5_limit 87 = .ok (.aload_n 0, 1) := by decide +kernel
theorem dX5_limit_88 : decode cX5_limit 88 = .ok (.getfield 57, 3) := by decide +kernel
theorem dX5_limit_91 : decode cX5_limit 91 = .ok (.bipush 20, 2) := by decide +kernel
theorem dX5_limit_93 : decode cX5_limit 93 = .ok (.iload_n 1, 1) := by decide +kernel
theorem dX5_limit_94 : decode cX5_limit 94 = .ok (.imul, 1) := by decide +kernel
theorem dX5_limit_95 : decode cX5_limit 95 = .ok (.iload 6, 2) := by decide +kernel
theorem dX5_limit_97 : decode cX5_limit 97 = .ok (.iadd, 1) := by decide +kernel
theorem dX5_limit_98 : decode cX5_limit 98 = .ok (.iaload, 1) := by decide +kernel
theorem dX5_limit_99 : decode cX5_limit 99 = .ok (.iconst (-1), 1) := by decide +kernel
theorem dX5_limit_100 : decode cX5_limit 100 = .ok (.if_icmp .ne 7, 3) := by decide +kernel
theorem dX5_limit_103 : decode cX5_limit 103 = .ok (.iconst 0, 1) := by decide +kernel
theorem dX5_limit_104 : decode cX5_limit 104 = .ok (.goto 4, 3) := by decide +kernel
theorem dX5_limit_107 : decode cX5_limit 107 = .ok (.iconst 1, 1) := by decide +kernel
theorem dX5_limit_108 : decode cX5_limit 108 = .ok (.iadd, 1) := by decide +kernel
theorem dX5_limit_109 : decode cX5_limit 109 = .ok (.istore 5, 2) := by decide +kernel
theorem dX5_limit_111 : decode cX5_limit 111 = .ok (.iinc 6 1, 3) := by decide +kernel
theorem dX5_limit_114 : decode cX5_limit 114 = .ok (.goto (-36), 3) := by decide +kernel
theorem dX5_limit_117 : decode cX5_limit 117 = .ok (.iload 5, 2) := by decide +kernel
theorem dX5_limit_119 : decode cX5_limit 119 = .ok (.ireturn, 1) := by decide +kernel
theorem dX5_limitOf_0 : decode cX5_limitOf 0 = .ok (.iconst (-1), 1) := by decide +kernel
theorem dX5_limitOf_1 : decode cX5_limitOf 1 = .ok (.istore_n 3, 1) := by decide +kernel
theorem dX5_limitOf_2 : decode cX5_limitOf 2 = .ok (.iconst 0, 1) := by decide +kernel
theorem dX5_limitOf_3 : decode cX5_limitOf 3 = .ok (.istore 4, 2) := by decide +kernel
theorem dX5_limitOf_5 : decode cX5_limitOf 5 = .ok (.iload 4, 2) := by decide +kernel
theorem dX5_limitOf_7 : decode cX5_limitOf 7 = .ok (.iload_n 2, 1) := by decide +kernel
theorem dX5_limitOf_8 : decode cX5_limitOf 8 = .ok (.if_icmp .gt 42, 3) := by decide +kernel
theorem dX5_limitOf_11 : decode cX5_limitOf 11 = .ok (.aload_n 0, 1) := by decide +kernel
theorem dX5_limitOf_12 : decode cX5_limitOf 12 = .ok (.getfield 57, 3) := by decide +kernel
theorem dX5_limitOf_15 : decode cX5_limitOf 15 = .ok (.bipush 20, 2) := by decide +kernel
theorem dX5_limitOf_17 : decode cX5_limitOf 17 = .ok (.iload_n 1, 1) := by decide +kernel
theorem dX5_limitOf_18 : decode cX5_limitOf 18 = .ok (.imul, 1) := by decide +kernel
theorem dX5_limitOf_19 : decode cX5_limitOf 19 = .ok (.iload 4, 2) := by decide +kernel
theorem dX5_limitOf_21 : decode cX5_limitOf 21 = .ok (.iadd, 1) := by decide +kernel
theorem dX5_limitOf_22 : decode cX5_limitOf 22 = .ok (.iaload, 1) := by decide +kernel
theorem dX5_limitOf_23 : decode cX5_limitOf 23 = .ok (.iconst (-1), 1) := by decide +kernel
theorem dX5_limitOf_24 : decode cX5_limitOf 24 = .ok (.if_icmp .ne 7, 3) := by decide +kernel
theorem dX5_limitOf_27 : decode cX5_limitOf 27 = .ok (.iload_n 3, 1) := by decide +kernel
theorem dX5_limitOf_28 : decode cX5_limitOf 28 = .ok (.goto 15, 3) := by decide +kernel
theorem dX5_limitOf_31 : decode cX5_limitOf 31 = .ok (.aload_n 0, 1) := by decide +kernel
theorem dX5_limitOf_32 : decode cX5_limitOf 32 = .ok (.getfield 57, 3) := by decide +kernel
theorem dX5_limitOf_35 : decode cX5_limitOf 35 = .ok (.bipush 20, 2) := by decide +kernel
theorem dX5_limitOf_37 : decode cX5_limitOf 37 = .ok (.iload_n 1, 1) := by decide +kernel
theorem dX5_limitOf_38 : decode cX5_limitOf 38 = .ok (.imul, 1) := by decide +kernel
theorem dX5_limitOf_39 : decode cX5_limitOf 39 = .ok (.iload 4, 2) := by decide +kernel
theorem dX5_limitOf_41 : decode cX5_limitOf 41 = .ok (.iadd, 1) := by decide +kernel
theorem dX5_limitOf_42 : decode cX5_limitOf 42 = .ok (.iaload, 1) := by decide +kernel
theorem dX5_limitOf_43 : decode cX5_limitOf 43 = .ok (.istore_n 3, 1) := by decide +kernel
theorem dX5_limitOf_44 : decode cX5_limitOf 44 = .ok (.iinc 4 1, 3) := by decide +kernel
theorem dX5_limitOf_47 : decode cX5_limitOf 47 = .ok (.goto (-42), 3) := by decide +kernel
theorem dX5_limitOf_50 : decode cX5_limitOf 50 = .ok (.iload_n 3, 1) := by decide +kernel
theorem dX5_limitOf_51 : decode cX5_limitOf 51 = .ok (.ireturn, 1) := by decide +kernel
theorem dX5_wake_0 : decode cX5_wake 0 = .ok (.aload_n 0, 1) := by decide +kernel
theorem dX5_wake_1 : decode cX5_wake 1 = .ok (.iload_n 1, 1) := by decide +kernel
theorem dX5_wake_2 : decode cX5_wake 2 = .ok (.invokevirtual 180, 3) := by decide +kernel
theorem dX5_wake_5 : decode cX5_wake 5 = .ok (.ifCond .eq 19, 3) := by decide +kernel
theorem dX5_wake_8 : decode cX5_wake 8 = .ok (.iload_n 2, 1) := by decide +kernel
theorem dX5_wake_9 : decode cX5_wake 9 = .ok (.iconst (-1), 1) := by decide +kernel
theorem dX5_wake_10 : decode cX5_wake 10 = .ok (.if_icmp .eq 10, 3) := by decide +kernel
theorem dX5_wake_13 : decode cX5_wake 13 = .ok (.iload_n 2, 1) := by decide +kernel
theorem dX5_wake_14 : decode cX5_wake 14 = .ok (.invokestatic 96, 3) := by decide +kernel
theorem dX5_wake_17 : decode cX5_wake 17 = .ok (.ifCond .eq 7, 3) := by decide +kernel
theorem dX5_wake_20 : decode cX5_wake 20 = .ok (.iconst 1, 1) := by decide +kernel
theorem dX5_wake_21 : decode cX5_wake 21 = .ok (.goto 4, 3) := by decide +kernel
theorem dX5_wake_24 : decode cX5_wake 24 = .ok (.iconst 0, 1) := by decide +kernel
theorem dX5_wake_25 : decode cX5_wake 25 = .ok (.istore 4, 2) := by decide +kernel
theorem dX5_wake_27 : decode cX5_wake 27 = .ok (.aload_n 0, 1) := by decide +kernel
theorem dX5_wake_28 : decode cX5_wake 28 = .ok (.iload 4, 2) := by decide +kernel
theorem dX5_wake_30 : decode cX5_wake 30 = .ok (.ifCond .ne 7, 3) := by decide +kernel
theorem dX5_wake_33 : decode cX5_wake 33 = .ok (.iconst 1, 1) := by decide +kernel
theorem dX5_wake_34 : decode cX5_wake 34 = .ok (.goto 19, 3) := by decide +kernel
theorem dX5_wake_37 : decode cX5_wake 37 = .ok (.iload_n 3, 1) := by decide +kernel
theorem dX5_wake_38 : decode cX5_wake 38 = .ok (.ldc 103, 2) := by decide +kernel
theorem dX5_wake_40 : decode cX5_wake 40 = .ok (.ldc 104, 2) := by decide +kernel
theorem dX5_wake_42 : decode cX5_wake 42 = .ok (.invokestatic 89, 3) := by decide +kernel
theorem dX5_wake_45 : decode cX5_wake 45 = .ok (.ifCond .eq 7, 3) := by decide +kernel
theorem dX5_wake_48 : decode cX5_wake 48 = .ok (.iconst 0, 1) := by decide +kernel
theorem dX5_wake_49 : decode cX5_wake 49 = .ok (.goto 4, 3) := by decide +kernel
theorem dX5_wake_52 : decode cX5_wake 52 = .ok (.iconst 2, 1) := by decide +kernel
theorem dX5_wake_53 : decode cX5_wake 53 = .ok (.putfield 85, 3) := by decide +kernel
theorem dX5_wake_56 : decode cX5_wake 56 = .ok (.aload_n 0, 1) := by decide +kernel
theorem dX5_wake_57 : decode cX5_wake 57 = .ok (.getfield 85, 3) := by decide +kernel
theorem dX5_wake_60 : decode cX5_wake 60 = .ok (.ifCond .le 5, 3) := by decide +kernel
theorem dX5_wake_63 : decode cX5_wake 63 = .ok (.iconst 0, 1) := by decide +kernel
theorem dX5_wake_64 : decode cX5_wake 64 = .ok (.ireturn, 1) := by decide +kernel
theorem dX5_wake_65 : decode cX5_wake 65 = .ok (.aload_n 0, 1) := by decide +kernel
theorem dX5_wake_66 : decode cX5_wake 66 = .ok (.getfield 60, 3) := by decide +kernel
theorem dX5_wake_69 : decode cX5_wake 69 = .ok (.iload_n 1, 1) := by decide +kernel
theorem dX5_wake_70 : decode cX5_wake 70 = .ok (.iaload, 1) := by decide +kernel
theorem dX5_wake_71 : decode cX5_wake 71 = .ok (.istore 5, 2) := by decide +kernel
theorem dX5_wake_73 : decode cX5_wake 73 = .ok (.aload_n 0, 1) := by decide +kernel
theorem dX5_wake_74 : decode cX5_wake 74 = .ok (.getfield 60, 3) := by decide +kernel
theorem dX5_wake_77 : decode cX5_wake 77 = .ok (.iload_n 1, 1) := by decide +kernel
theorem dX5_wake_78 : decode cX5_wake 78 = .ok (.iload_n 2, 1) := by decide +kernel
theorem dX5_wake_79 : decode cX5_wake 79 = .ok (.iastore, 1) := by decide +kernel
theorem dX5_wake_80 : decode cX5_wake 80 = .ok (.aload_n 0, 1) := by decide +kernel
theorem dX5_wake_81 : decode cX5_wake 81 = .ok (.getfield 63, 3) := by decide +kernel
theorem dX5_wake_84 : decode cX5_wake 84 = .ok (.iload_n 1, 1) := by decide +kernel
theorem dX5_wake_85 : decode cX5_wake 85 = .ok (.iload_n 3, 1) := by decide +kernel
theorem dX5_wake_86 : decode cX5_wake 86 = .ok (.iastore, 1) := by decide +kernel
theorem dX5_wake_87 : decode cX5_wake 87 = .ok (.iload 5, 2) := by decide +kernel
theorem dX5_wake_89 : decode cX5_wake 89 = .ok (.ireturn, 1) := by decide +kernel
theorem dX5_curesAround_0 : decode cX5_curesAround 0 = .ok (.iconst 0, 1) := by decide +kernel
theorem dX5_curesAround_1 : decode cX5_curesAround 1 = .ok (.istore_n 3, 1) := by decide +kernel
theorem dX5_curesAround_2 : decode cX5_curesAround 2 = .ok (.iload_n 2, 1) := by decide +kernel
theorem dX5_curesAround_3 : decode cX5_curesAround 3 = .ok (.iconst 3, 1) := by decide +kernel
theorem dX5_curesAround_4 : decode cX5_curesAround 4 = .ok (.isub, 1) := by decide +kernel
theorem dX5_curesAround_5 : decode cX5_curesAround 5 = .ok (.istore 4, 2) := by decide +kernel
theorem dX5_curesAround_7 : decode cX5_curesAround 7 = .ok (.iload 4, 2) := by decide +kernel
theorem dX5_curesAround_9 : decode cX5_curesAround 9 = .ok (.iload_n 2, 1) := by decide +kernel
theorem dX5_curesAround_10 : decode cX5_curesAround 10 = .ok (.if_icmp .gt 89, 3) := by decide +kernel
theorem dX5_curesAround_13 : decode cX5_curesAround 13 = .ok (.iconst 0, 1) := by decide +kernel
theorem dX5_curesAround_14 : decode cX5_curesAround 14 = .ok (.istore 5, 2) := by decide +kernel
theorem dX5_curesAround_16 : decode cX5_curesAround 16 = .ok (.iload 4, 2) := by decide +kernel
theorem dX5_curesAround_18 : decode cX5_curesAround 18 = .ok (.istore 6, 2) := by decide +kernel
theorem dX5_curesAround_20 : decode cX5_curesAround 20 = .ok (.iload 6, 2) := by decide +kernel
theorem dX5_curesAround_22 : decode cX5_curesAround 22 = .ok (.iload 4, 2) := by decide +kernel
theorem dX5_curesAround_24 : decode cX5_curesAround 24 = .ok (.iconst 4, 1) := by decide +kernel
theorem dX5_curesAround_25 : decode cX5_curesAround 25 = .ok (.iadd, 1) := by decide +kernel
theorem dX5_curesAround_26 : decode cX5_curesAround 26 = .ok (.if_icmp .ge 54, 3) := by decide +kernel
theorem dX5_curesAround_29 : decode cX5_curesAround 29 = .ok (.iload 5, 2) := by decide +kernel
theorem dX5_curesAround_31 : decode cX5_curesAround 31 = .ok (.iload 6, 2) := by decide +kernel
theorem dX5_curesAround_33 : decode cX5_curesAround 33 = .ok (.invokestatic 100, 3) := by decide +kernel
theorem dX5_curesAround_36 : decode cX5_curesAround 36 = .ok (.ifCond .eq 34, 3) := by decide +kernel
theorem dX5_curesAround_39 : decode cX5_curesAround 39 = .ok (.aload_n 0, 1) := by decide +kernel
theorem dX5_curesAround_40 : decode cX5_curesAround 40 = .ok (.getfield 66, 3) := by decide +kernel
theorem dX5_curesAround_43 : decode cX5_curesAround 43 = .ok (.bipush 20, 2) := by decide +kernel
theorem dX5_curesAround_45 : decode cX5_curesAround 45 = .ok (.iload_n 1, 1) := by decide +kernel
theorem dX5_curesAround_46 : decode cX5_curesAround 46 = .ok (.imul, 1) := by decide +kernel
theorem dX5_curesAround_47 : decode cX5_curesAround 47 = .ok (.iload 6, 2) := by decide +kernel
theorem dX5_curesAround_49 : decode cX5_curesAround 49 = .ok (.invokestatic 100, 3) := by decide +kernel
theorem dX5_curesAround_52 : decode cX5_curesAround 52 = .ok (.ifCond .eq 8, 3) := by decide +kernel
theorem dX5_curesAround_55 : decode cX5_curesAround 55 = .ok (.iload 6, 2) := by decide +kernel
theorem dX5_curesAround_57 : decode cX5_curesAround 57 = .ok (.goto 4, 3) := by decide +kernel
theorem dX5_curesAround_60 : decode cX5_curesAround 60 = .ok (.iconst 0, 1) := by decide +kernel
theorem dX5_curesAround_61 : decode cX5_curesAround 61 = .ok (.iadd, 1) := by decide +kernel
theorem dX5_curesAround_62 : decode cX5_curesAround 62 = .ok (.iaload, 1) := by decide +kernel
theorem dX5_curesAround_63 : decode cX5_curesAround 63 = .ok (.ifCond .le 7, 3) := by decide +kernel
theorem dX5_curesAround_66 : decode cX5_curesAround 66 = .ok (.iconst 1, 1) := by decide +kernel
theorem dX5_curesAround_67 : decode cX5_curesAround 67 = .ok (.goto 4, 3) := by decide +kernel
theorem dX5_curesAround_70 : decode cX5_curesAround 70 = .ok (.iconst 0, 1) := by decide +kernel
theorem dX5_curesAround_71 : decode cX5_curesAround 71 = .ok (.iadd, 1) := by decide +kernel
theorem dX5_curesAround_72 : decode cX5_curesAround 72 = .ok (.istore 5, 2) := by decide +kernel
theorem dX5_curesAround_74 : decode cX5_curesAround 74 = .ok (.iinc 6 1, 3) := by decide +kernel
theorem dX5_curesAround_77 : decode cX5_curesAround 77 = .ok (.goto (-57), 3) := by decide +kernel
theorem dX5_curesAround_80 : decode cX5_curesAround 80 = .ok (.iload 5, 2) := by decide +kernel
theorem dX5_curesAround_82 : decode cX5_curesAround 82 = .ok (.iload_n 3, 1) := by decide +kernel
theorem dX5_curesAround_83 : decode cX5_curesAround 83 = .ok (.if_icmp .le 8, 3) := by decide +kernel
theorem dX5_curesAround_86 : decode cX5_curesAround 86 = .ok (.iload 5, 2) := by decide +kernel
theorem dX5_curesAround_88 : decode cX5_curesAround 88 = .ok (.goto 4, 3) := by decide +kernel
theorem dX5_curesAround_91 : decode cX5_curesAround 91 = .ok (.iload_n 3, 1) := by decide +kernel
theorem dX5_curesAround_92 : decode cX5_curesAround 92 = .ok (.istore_n 3, 1) := by decide +kernel
theorem dX5_curesAround_93 : decode cX5_curesAround 93 = .ok (.iinc 4 1, 3) := by decide +kernel
theorem dX5_curesAround_96 : decode cX5_curesAround 96 = .ok (.goto (-89), 3) := by decide +kernel
theorem dX5_curesAround_99 : decode cX5_curesAround 99 = .ok (.iload_n 3, 1) := by decide +kernel
theorem dX5_curesAround_100 : decode cX5_curesAround 100 = .ok (.ireturn, 1) := by decide +kernel
theorem dX5_cure_0 : decode cX5_cure 0 = .ok (.aload_n 0, 1) := by decide +kernel
theorem dX5_cure_1 : decode cX5_cure 1 = .ok (.aload_n 0, 1) := by decide +kernel
theorem dX5_cure_2 : decode cX5_cure 2 = .ok (.iload_n 1, 1) := by decide +kernel
theorem dX5_cure_3 : decode cX5_cure 3 = .ok (.invokevirtual 180, 3) := by decide +kernel
theorem dX5_cure_6 : decode cX5_cure 6 = .ok (.ifCond .eq 10, 3) := by decide +kernel
theorem dX5_cure_9 : decode cX5_cure 9 = .ok (.iload_n 2, 1) := by decide +kernel
theorem dX5_cure_10 : decode cX5_cure 10 = .ok (.invokestatic 100, 3) := by decide +kernel
theorem dX5_cure_13 : decode cX5_cure 13 = .ok (.ifCond .ne 7, 3) := by decide +kernel
theorem dX5_cure_16 : decode cX5_cure 16 = .ok (.iconst 1, 1) := by decide +kernel
theorem dX5_cure_17 : decode cX5_cure 17 = .ok (.goto 18, 3) := by decide +kernel
theorem dX5_cure_20 : decode cX5_cure 20 = .ok (.iload_n 3, 1) := by decide +kernel
theorem dX5_cure_21 : decode cX5_cure 21 = .ok (.iconst 1, 1) := by decide +kernel
theorem dX5_cure_22 : decode cX5_cure 22 = .ok (.ldc 104, 2) := by decide +kernel
theorem dX5_cure_24 : decode cX5_cure 24 = .ok (.invokestatic 89, 3) := by decide +kernel
theorem dX5_cure_27 : decode cX5_cure 27 = .ok (.ifCond .eq 7, 3) := by decide +kernel
theorem dX5_cure_30 : decode cX5_cure 30 = .ok (.iconst 0, 1) := by decide +kernel
theorem dX5_cure_31 : decode cX5_cure 31 = .ok (.goto 4, 3) := by decide +kernel
theorem dX5_cure_34 : decode cX5_cure 34 = .ok (.iconst 2, 1) := by decide +kernel
theorem dX5_cure_35 : decode cX5_cure 35 = .ok (.putfield 85, 3) := by decide +kernel
theorem dX5_cure_38 : decode cX5_cure 38 = .ok (.aload_n 0, 1) := by decide +kernel
theorem dX5_cure_39 : decode cX5_cure 39 = .ok (.getfield 85, 3) := by decide +kernel
theorem dX5_cure_42 : decode cX5_cure 42 = .ok (.ifCond .le 5, 3) := by decide +kernel
theorem dX5_cure_45 : decode cX5_cure 45 = .ok (.iconst 0, 1) := by decide +kernel
theorem dX5_cure_46 : decode cX5_cure 46 = .ok (.ireturn, 1) := by decide +kernel
theorem dX5_cure_47 : decode cX5_cure 47 = .ok (.aload_n 0, 1) := by decide +kernel
theorem dX5_cure_48 : decode cX5_cure 48 = .ok (.aload_n 0, 1) := by decide +kernel
theorem dX5_cure_49 : decode cX5_cure 49 = .ok (.getfield 66, 3) := by decide +kernel
theorem dX5_cure_52 : decode cX5_cure 52 = .ok (.bipush 20, 2) := by decide +kernel
theorem dX5_cure_54 : decode cX5_cure 54 = .ok (.iload_n 1, 1) := by decide +kernel
theorem dX5_cure_55 : decode cX5_cure 55 = .ok (.imul, 1) := by decide +kernel
theorem dX5_cure_56 : decode cX5_cure 56 = .ok (.iload_n 2, 1) := by decide +kernel
theorem dX5_cure_57 : decode cX5_cure 57 = .ok (.iadd, 1) := by decide +kernel
theorem dX5_cure_58 : decode cX5_cure 58 = .ok (.iaload, 1) := by decide +kernel
theorem dX5_cure_59 : decode cX5_cure 59 = .ok (.ifCond .gt 13, 3) := by decide +kernel
theorem dX5_cure_62 : decode cX5_cure 62 = .ok (.aload_n 0, 1) := by decide +kernel
theorem dX5_cure_63 : decode cX5_cure 63 = .ok (.iload_n 1, 1) := by decide +kernel
theorem dX5_cure_64 : decode cX5_cure 64 = .ok (.iload_n 2, 1) := by decide +kernel
theorem dX5_cure_65 : decode cX5_cure 65 = .ok (.invokevirtual 183, 3) := by decide +kernel
theorem dX5_cure_68 : decode cX5_cure 68 = .ok (.iconst 1, 1) := by decide +kernel
theorem dX5_cure_69 : decode cX5_cure 69 = .ok (.if_icmp .le 7, 3) := by decide +kernel
theorem dX5_cure_72 : decode cX5_cure 72 = .ok (.iconst 3, 1) := by decide +kernel
theorem dX5_cure_73 : decode cX5_cure 73 = .ok (.goto 4, 3) := by decide +kernel
theorem dX5_cure_76 : decode cX5_cure 76 = .ok (.iconst 0, 1) := by decide +kernel
theorem dX5_cure_77 : decode cX5_cure 77 = .ok (.putfield 85, 3) := by decide +kernel
theorem dX5_cure_80 : decode cX5_cure 80 = .ok (.aload_n 0, 1) := by decide +kernel
theorem dX5_cure_81 : decode cX5_cure 81 = .ok (.getfield 85, 3) := by decide +kernel
theorem dX5_cure_84 : decode cX5_cure 84 = .ok (.ifCond .le 5, 3) := by decide +kernel
theorem dX5_cure_87 : decode cX5_cure 87 = .ok (.iconst 0, 1) := by decide +kernel
theorem dX5_cure_88 : decode cX5_cure 88 = .ok (.ireturn, 1) := by decide +kernel
theorem dX5_cure_89 : decode cX5_cure 89 = .ok (.aload_n 0, 1) := by decide +kernel
theorem dX5_cure_90 : decode cX5_cure 90 = .ok (.getfield 66, 3) := by decide +kernel
theorem dX5_cure_93 : decode cX5_cure 93 = .ok (.bipush 20, 2) := by decide +kernel
theorem dX5_cure_95 : decode cX5_cure 95 = .ok (.iload_n 1, 1) := by decide +kernel
theorem dX5_cure_96 : decode cX5_cure 96 = .ok (.imul, 1) := by decide +kernel
theorem dX5_cure_97 : decode cX5_cure 97 = .ok (.iload_n 2, 1) := by decide +kernel
theorem dX5_cure_98 : decode cX5_cure 98 = .ok (.iadd, 1) := by decide +kernel
theorem dX5_cure_99 : decode cX5_cure 99 = .ok (.iload_n 3, 1) := by decide +kernel
theorem dX5_cure_100 : decode cX5_cure 100 = .ok (.iastore, 1) := by decide +kernel
theorem dX5_cure_101 : decode cX5_cure 101 = .ok (.iconst 0, 1) := by decide +kernel
theorem dX5_cure_102 : decode cX5_cure 102 = .ok (.istore 4, 2) := by decide +kernel
theorem dX5_cure_104 : decode cX5_cure 104 = .ok (.iconst 0, 1) := by decide +kernel
theorem dX5_cure_105 : decode cX5_cure 105 = .ok (.istore 5, 2) := by decide +kernel
theorem dX5_cure_107 : decode cX5_cure 107 = .ok (.iload 5, 2) := by decide +kernel
theorem dX5_cure_109 : decode cX5_cure 109 = .ok (.bipush 20, 2) := by decide +kernel
theorem dX5_cure_111 : decode cX5_cure 111 = .ok (.if_icmp .ge 34, 3) := by decide +kernel
theorem dX5_cure_114 : decode cX5_cure 114 = .ok (.iload 4, 2) := by decide +kernel
theorem dX5_cure_116 : decode cX5_cure 116 = .ok (.aload_n 0, 1) := by decide +kernel
theorem dX5_cure_117 : decode cX5_cure 117 = .ok (.getfield 66, 3) := by decide +kernel
theorem dX5_cure_120 : decode cX5_cure 120 = .ok (.bipush 20, 2) := by decide +kernel
theorem dX5_cure_122 : decode cX5_cure 122 = .ok (.iload_n 1, 1) := by decide +kernel
theorem dX5_cure_123 : decode cX5_cure 123 = .ok (.imul, 1) := by decide +kernel
theorem dX5_cure_124 : decode cX5_cure 124 = .ok (.iload 5, 2) := by decide +kernel
theorem dX5_cure_126 : decode cX5_cure 126 = .ok (.iadd, 1) := by decide +kernel
theorem dX5_cure_127 : decode cX5_cure 127 = .ok (.iaload, 1) := by decide +kernel
theorem dX5_cure_128 : decode cX5_cure 128 = .ok (.ifCond .le 7, 3) := by decide +kernel
theorem dX5_cure_131 : decode cX5_cure 131 = .ok (.iconst 1, 1) := by decide +kernel
theorem dX5_cure_132 : decode cX5_cure 132 = .ok (.goto 4, 3) := by decide +kernel
theorem dX5_cure_135 : decode cX5_cure 135 = .ok (.iconst 0, 1) := by decide +kernel
theorem dX5_cure_136 : decode cX5_cure 136 = .ok (.iadd, 1) := by decide +kernel
theorem dX5_cure_137 : decode cX5_cure 137 = .ok (.istore 4, 2) := by decide +kernel
theorem dX5_cure_139 : decode cX5_cure 139 = .ok (.iinc 5 1, 3) := by decide +kernel
theorem dX5_cure_142 : decode cX5_cure 142 = .ok (.goto (-35), 3) := by decide +kernel
theorem dX5_cure_145 : decode cX5_cure 145 = .ok (.iload 4, 2) := by decide +kernel
theorem dX5_cure_147 : decode cX5_cure 147 = .ok (.ireturn, 1) := by decide +kernel
theorem dX5_waive_0 : decode cX5_waive 0 = .ok (.aload_n 0, 1) := by decide +kernel
theorem dX5_waive_1 : decode cX5_waive 1 = .ok (.aload_n 0, 1) := by decide +kernel
theorem dX5_waive_2 : decode cX5_waive 2 = .ok (.iload_n 1, 1) := by decide +kernel
theorem dX5_waive_3 : decode cX5_waive 3 = .ok (.invokevirtual 180, 3) := by decide +kernel
theorem dX5_waive_6 : decode cX5_waive 6 = .ok (.ifCond .eq 14, 3) := by decide +kernel
theorem dX5_waive_9 : decode cX5_waive 9 = .ok (.iload_n 2, 1) := by decide +kernel
theorem dX5_waive_10 : decode cX5_waive 10 = .ok (.invokestatic 100, 3) := by decide +kernel
theorem dX5_waive_13 : decode cX5_waive 13 = .ok (.ifCond .eq 7, 3) := by decide +kernel
theorem dX5_waive_16 : decode cX5_waive 16 = .ok (.iconst 0, 1) := by decide +kernel
theorem dX5_waive_17 : decode cX5_waive 17 = .ok (.goto 4, 3) := by decide +kernel
theorem dX5_waive_20 : decode cX5_waive 20 = .ok (.iconst 1, 1) := by decide +kernel
theorem dX5_waive_21 : decode cX5_waive 21 = .ok (.putfield 85, 3) := by decide +kernel
theorem dX5_waive_24 : decode cX5_waive 24 = .ok (.aload_n 0, 1) := by decide +kernel
theorem dX5_waive_25 : decode cX5_waive 25 = .ok (.getfield 85, 3) := by decide +kernel
theorem dX5_waive_28 : decode cX5_waive 28 = .ok (.ifCond .le 5, 3) := by decide +kernel
theorem dX5_waive_31 : decode cX5_waive 31 = .ok (.iconst 0, 1) := by decide +kernel
theorem dX5_waive_32 : decode cX5_waive 32 = .ok (.ireturn, 1) := by decide +kernel
theorem dX5_waive_33 : decode cX5_waive 33 = .ok (.aload_n 0, 1) := by decide +kernel
theorem dX5_waive_34 : decode cX5_waive 34 = .ok (.getfield 69, 3) := by decide +kernel
theorem dX5_waive_37 : decode cX5_waive 37 = .ok (.bipush 20, 2) := by decide +kernel
theorem dX5_waive_39 : decode cX5_waive 39 = .ok (.iload_n 1, 1) := by decide +kernel
theorem dX5_waive_40 : decode cX5_waive 40 = .ok (.imul, 1) := by decide +kernel
theorem dX5_waive_41 : decode cX5_waive 41 = .ok (.iload_n 2, 1) := by decide +kernel
theorem dX5_waive_42 : decode cX5_waive 42 = .ok (.iadd, 1) := by decide +kernel
theorem dX5_waive_43 : decode cX5_waive 43 = .ok (.aload_n 0, 1) := by decide +kernel
theorem dX5_waive_44 : decode cX5_waive 44 = .ok (.getfield 69, 3) := by decide +kernel
theorem dX5_waive_47 : decode cX5_waive 47 = .ok (.bipush 20, 2) := by decide +kernel
theorem dX5_waive_49 : decode cX5_waive 49 = .ok (.iload_n 1, 1) := by decide +kernel
theorem dX5_waive_50 : decode cX5_waive 50 = .ok (.imul, 1) := by decide +kernel
theorem dX5_waive_51 : decode cX5_waive 51 = .ok (.iload_n 2, 1) := by decide +kernel
theorem dX5_waive_52 : decode cX5_waive 52 = .ok (.iadd, 1) := by decide +kernel
theorem dX5_waive_53 : decode cX5_waive 53 = .ok (.baload, 1) := by decide +kernel
theorem dX5_waive_54 : decode cX5_waive 54 = .ok (.ifCond .ne 7, 3) := by decide +kernel
theorem dX5_waive_57 : decode cX5_waive 57 = .ok (.iconst 1, 1) := by decide +kernel
theorem dX5_waive_58 : decode cX5_waive 58 = .ok (.goto 4, 3) := by decide +kernel
theorem dX5_waive_61 : decode cX5_waive 61 = .ok (.iconst 0, 1) := by decide +kernel
theorem dX5_waive_62 : decode cX5_waive 62 = .ok (.bastore, 1) := by decide +kernel
theorem dX5_waive_63 : decode cX5_waive 63 = .ok (.aload_n 0, 1) := by decide +kernel
theorem dX5_waive_64 : decode cX5_waive 64 = .ok (.getfield 69, 3) := by decide +kernel
theorem dX5_waive_67 : decode cX5_waive 67 = .ok (.bipush 20, 2) := by decide +kernel
theorem dX5_waive_69 : decode cX5_waive 69 = .ok (.iload_n 1, 1) := by decide +kernel
theorem dX5_waive_70 : decode cX5_waive 70 = .ok (.imul, 1) := by decide +kernel
theorem dX5_waive_71 : decode cX5_waive 71 = .ok (.iload_n 2, 1) := by decide +kernel
theorem dX5_waive_72 : decode cX5_waive 72 = .ok (.iadd, 1) := by decide +kernel
theorem dX5_waive_73 : decode cX5_waive 73 = .ok (.baload, 1) := by decide +kernel
theorem dX5_waive_74 : decode cX5_waive 74 = .ok (.ireturn, 1) := by decide +kernel
theorem dX5_isKept_0 : decode cX5_isKept 0 = .ok (.aload_n 0, 1) := by decide +kernel
theorem dX5_isKept_1 : decode cX5_isKept 1 = .ok (.getfield 37, 3) := by decide +kernel
theorem dX5_isKept_4 : decode cX5_isKept 4 = .ok (.bipush 20, 2) := by decide +kernel
theorem dX5_isKept_6 : decode cX5_isKept 6 = .ok (.aload_n 0, 1) := by decide +kernel
theorem dX5_isKept_7 : decode cX5_isKept 7 = .ok (.getfield 51, 3) := by decide +kernel
theorem dX5_isKept_10 : decode cX5_isKept 10 = .ok (.iload_n 1, 1) := by decide +kernel
theorem dX5_isKept_11 : decode cX5_isKept 11 = .ok (.iaload, 1) := by decide +kernel
theorem dX5_isKept_12 : decode cX5_isKept 12 = .ok (.imul, 1) := by decide +kernel
theorem dX5_isKept_13 : decode cX5_isKept 13 = .ok (.iload_n 2, 1) := by decide +kernel
theorem dX5_isKept_14 : decode cX5_isKept 14 = .ok (.iadd, 1) := by decide +kernel
theorem dX5_isKept_15 : decode cX5_isKept 15 = .ok (.laload, 1) := by decide +kernel
theorem dX5_isKept_16 : decode cX5_isKept 16 = .ok (.lstore 5, 2) := by decide +kernel
theorem dX5_isKept_18 : decode cX5_isKept 18 = .ok (.aload_n 0, 1) := by decide +kernel
theorem dX5_isKept_19 : decode cX5_isKept 19 = .ok (.getfield 37, 3) := by decide +kernel
theorem dX5_isKept_22 : decode cX5_isKept 22 = .ok (.bipush 20, 2) := by decide +kernel
theorem dX5_isKept_24 : decode cX5_isKept 24 = .ok (.aload_n 0, 1) := by decide +kernel
theorem dX5_isKept_25 : decode cX5_isKept 25 = .ok (.getfield 54, 3) := by decide +kernel
theorem dX5_isKept_28 : decode cX5_isKept 28 = .ok (.iload_n 1, 1) := by decide +kernel
theorem dX5_isKept_29 : decode cX5_isKept 29 = .ok (.iaload, 1) := by decide +kernel
theorem dX5_isKept_30 : decode cX5_isKept 30 = .ok (.imul, 1) := by decide +kernel
theorem dX5_isKept_31 : decode cX5_isKept 31 = .ok (.iload_n 2, 1) := by decide +kernel
theorem dX5_isKept_32 : decode cX5_isKept 32 = .ok (.iadd, 1) := by decide +kernel
theorem dX5_isKept_33 : decode cX5_isKept 33 = .ok (.laload, 1) := by decide +kernel
theorem dX5_isKept_34 : decode cX5_isKept 34 = .ok (.lload_n 3, 1) := by decide +kernel
theorem dX5_isKept_35 : decode cX5_isKept 35 = .ok (.ladd, 1) := by decide +kernel
theorem dX5_isKept_36 : decode cX5_isKept 36 = .ok (.lstore 7, 2) := by decide +kernel
theorem dX5_isKept_38 : decode cX5_isKept 38 = .ok (.lload 7, 2) := by decide +kernel
theorem dX5_isKept_40 : decode cX5_isKept 40 = .ok (.lconst 0, 1) := by decide +kernel
theorem dX5_isKept_41 : decode cX5_isKept 41 = .ok (.lcmp, 1) := by decide +kernel
theorem dX5_isKept_42 : decode cX5_isKept 42 = .ok (.ifCond .le 27, 3) := by decide +kernel
theorem dX5_isKept_45 : decode cX5_isKept 45 = .ok (.ldc2_w 186, 3) := by decide +kernel
theorem dX5_isKept_48 : decode cX5_isKept 48 = .ok (.lload 5, 2) := by decide +kernel
theorem dX5_isKept_50 : decode cX5_isKept 50 = .ok (.lmul, 1) := by decide +kernel
theorem dX5_isKept_51 : decode cX5_isKept 51 = .ok (.aload_n 0, 1) := by decide +kernel
theorem dX5_isKept_52 : decode cX5_isKept 52 = .ok (.iload_n 1, 1) := by decide +kernel
theorem dX5_isKept_53 : decode cX5_isKept 53 = .ok (.iload_n 2, 1) := by decide +kernel
theorem dX5_isKept_54 : decode cX5_isKept 54 = .ok (.invokevirtual 188, 3) := by decide +kernel
theorem dX5_isKept_57 : decode cX5_isKept 57 = .ok (.i2l, 1) := by decide +kernel
theorem dX5_isKept_58 : decode cX5_isKept 58 = .ok (.lload 7, 2) := by decide +kernel
theorem dX5_isKept_60 : decode cX5_isKept 60 = .ok (.lmul, 1) := by decide +kernel
theorem dX5_isKept_61 : decode cX5_isKept 61 = .ok (.lcmp, 1) := by decide +kernel
theorem dX5_isKept_62 : decode cX5_isKept 62 = .ok (.ifCond .gt 7, 3) := by decide +kernel
theorem dX5_isKept_65 : decode cX5_isKept 65 = .ok (.iconst 1, 1) := by decide +kernel
theorem dX5_isKept_66 : decode cX5_isKept 66 = .ok (.goto 4, 3) := by decide +kernel
theorem dX5_isKept_69 : decode cX5_isKept 69 = .ok (.iconst 0, 1) := by decide +kernel
theorem dX5_isKept_70 : decode cX5_isKept 70 = .ok (.ireturn, 1) := by decide +kernel
theorem dX5_stateOf_0 : decode cX5_stateOf 0 = .ok (.aload_n 0, 1) := by decide +kernel
theorem dX5_stateOf_1 : decode cX5_stateOf 1 = .ok (.getfield 60, 3) := by decide +kernel
theorem dX5_stateOf_4 : decode cX5_stateOf 4 = .ok (.iload_n 1, 1) := by decide +kernel
theorem dX5_stateOf_5 : decode cX5_stateOf 5 = .ok (.iaload, 1) := by decide +kernel
theorem dX5_stateOf_6 : decode cX5_stateOf 6 = .ok (.iconst (-1), 1) := by decide +kernel
theorem dX5_stateOf_7 : decode cX5_stateOf 7 = .ok (.if_icmp .eq 46, 3) := by decide +kernel
theorem dX5_stateOf_10 : decode cX5_stateOf 10 = .ok (.aload_n 0, 1) := by decide +kernel
theorem dX5_stateOf_11 : decode cX5_stateOf 11 = .ok (.getfield 7, 3) := by decide +kernel
theorem dX5_stateOf_14 : decode cX5_stateOf 14 = .ok (.bipush 20, 2) := by decide +kernel
theorem dX5_stateOf_16 : decode cX5_stateOf 16 = .ok (.aload_n 0, 1) := by decide +kernel
theorem dX5_stateOf_17 : decode cX5_stateOf 17 = .ok (.getfield 60, 3) := by decide +kernel
theorem dX5_stateOf_20 : decode cX5_stateOf 20 = .ok (.iload_n 1, 1) := by decide +kernel
theorem dX5_stateOf_21 : decode cX5_stateOf 21 = .ok (.iaload, 1) := by decide +kernel
theorem dX5_stateOf_22 : decode cX5_stateOf 22 = .ok (.iconst (-1), 1) := by decide +kernel
theorem dX5_stateOf_23 : decode cX5_stateOf 23 = .ok (.if_icmp .ne 7, 3) := by decide +kernel
theorem dX5_stateOf_26 : decode cX5_stateOf 26 = .ok (.iconst 0, 1) := by decide +kernel
theorem dX5_stateOf_27 : decode cX5_stateOf 27 = .ok (.goto 9, 3) := by decide +kernel
theorem dX5_stateOf_30 : decode cX5_stateOf 30 = .ok (.aload_n 0, 1) := by decide +kernel
theorem dX5_stateOf_31 : decode cX5_stateOf 31 = .ok (.getfield 60, 3) := by decide +kernel
theorem dX5_stateOf_34 : decode cX5_stateOf 34 = .ok (.iload_n 1, 1) := by decide +kernel
theorem dX5_stateOf_35 : decode cX5_stateOf 35 = .ok (.iaload, 1) := by decide +kernel
theorem dX5_stateOf_36 : decode cX5_stateOf 36 = .ok (.imul, 1) := by decide +kernel
theorem dX5_stateOf_37 : decode cX5_stateOf 37 = .ok (.iload_n 2, 1) := by decide +kernel
theorem dX5_stateOf_38 : decode cX5_stateOf 38 = .ok (.iadd, 1) := by decide +kernel
theorem dX5_stateOf_39 : decode cX5_stateOf 39 = .ok (.iaload, 1) := by decide +kernel
theorem dX5_stateOf_40 : decode cX5_stateOf 40 = .ok (.aload_n 0, 1) := by decide +kernel
theorem dX5_stateOf_41 : decode cX5_stateOf 41 = .ok (.getfield 63, 3) := by decide +kernel
theorem dX5_stateOf_44 : decode cX5_stateOf 44 = .ok (.iload_n 1, 1) := by decide +kernel
theorem dX5_stateOf_45 : decode cX5_stateOf 45 = .ok (.iaload, 1) := by decide +kernel
theorem dX5_stateOf_46 : decode cX5_stateOf 46 = .ok (.if_icmp .ge 7, 3) := by decide +kernel
theorem dX5_stateOf_49 : decode cX5_stateOf 49 = .ok (.iconst 1, 1) := by decide +kernel
theorem dX5_stateOf_50 : decode cX5_stateOf 50 = .ok (.goto 4, 3) := by decide +kernel
theorem dX5_stateOf_53 : decode cX5_stateOf 53 = .ok (.iconst 0, 1) := by decide +kernel
theorem dX5_stateOf_54 : decode cX5_stateOf 54 = .ok (.istore_n 3, 1) := by decide +kernel
theorem dX5_stateOf_55 : decode cX5_stateOf 55 = .ok (.iload_n 3, 1) := by decide +kernel
theorem dX5_stateOf_56 : decode cX5_stateOf 56 = .ok (.ifCond .ne 13, 3) := by decide +kernel
theorem dX5_stateOf_59 : decode cX5_stateOf 59 = .ok (.aload_n 0, 1) := by decide +kernel
theorem dX5_stateOf_60 : decode cX5_stateOf 60 = .ok (.iload_n 1, 1) := by decide +kernel
theorem dX5_stateOf_61 : decode cX5_stateOf 61 = .ok (.iload_n 2, 1) := by decide +kernel
theorem dX5_stateOf_62 : decode cX5_stateOf 62 = .ok (.invokevirtual 188, 3) := by decide +kernel
theorem dX5_stateOf_65 : decode cX5_stateOf 65 = .ok (.iconst (-1), 1) := by decide +kernel
theorem dX5_stateOf_66 : decode cX5_stateOf 66 = .ok (.if_icmp .ne 5, 3) := by decide +kernel
theorem dX5_stateOf_69 : decode cX5_stateOf 69 = .ok (.iconst 0, 1) := by decide +kernel
theorem dX5_stateOf_70 : decode cX5_stateOf 70 = .ok (.ireturn, 1) := by decide +kernel
theorem dX5_stateOf_71 : decode cX5_stateOf 71 = .ok (.aload_n 0, 1) := by decide +kernel
theorem dX5_stateOf_72 : decode cX5_stateOf 72 = .ok (.getfield 66, 3) := by decide +kernel
theorem dX5_stateOf_75 : decode cX5_stateOf 75 = .ok (.bipush 20, 2) := by decide +kernel
theorem dX5_stateOf_77 : decode cX5_stateOf 77 = .ok (.iload_n 1, 1) := by decide +kernel
theorem dX5_stateOf_78 : decode cX5_stateOf 78 = .ok (.imul, 1) := by decide +kernel
theorem dX5_stateOf_79 : decode cX5_stateOf 79 = .ok (.iload_n 2, 1) := by decide +kernel
theorem dX5_stateOf_80 : decode cX5_stateOf 80 = .ok (.iadd, 1) := by decide +kernel
theorem dX5_stateOf_81 : decode cX5_stateOf 81 = .ok (.iaload, 1) := by decide +kernel
theorem dX5_stateOf_82 : decode cX5_stateOf 82 = .ok (.istore 4, 2) := by decide +kernel
theorem dX5_stateOf_84 : decode cX5_stateOf 84 = .ok (.aload_n 0, 1) := by decide +kernel
theorem dX5_stateOf_85 : decode cX5_stateOf 85 = .ok (.iload_n 1, 1) := by decide +kernel
theorem dX5_stateOf_86 : decode cX5_stateOf 86 = .ok (.iload_n 2, 1) := by decide +kernel
theorem dX5_stateOf_87 : decode cX5_stateOf 87 = .ok (.lconst 0, 1) := by decide +kernel
theorem dX5_stateOf_88 : decode cX5_stateOf 88 = .ok (.invokevirtual 191, 3) := by decide +kernel
theorem dX5_stateOf_91 : decode cX5_stateOf 91 = .ok (.ifCond .eq 5, 3) := by decide +kernel
theorem dX5_stateOf_94 : decode cX5_stateOf 94 = .ok (.iconst 1, 1) := by decide +kernel
theorem dX5_stateOf_95 : decode cX5_stateOf 95 = .ok (.ireturn, 1) := by decide +kernel
theorem dX5_stateOf_96 : decode cX5_stateOf 96 = .ok (.iload 4, 2) := by decide +kernel
theorem dX5_stateOf_98 : decode cX5_stateOf 98 = .ok (.ifCond .le 19, 3) := by decide +kernel
theorem dX5_stateOf_101 : decode cX5_stateOf 101 = .ok (.aload_n 0, 1) := by decide +kernel
theorem dX5_stateOf_102 : decode cX5_stateOf 102 = .ok (.iload_n 1, 1) := by decide +kernel
theorem dX5_stateOf_103 : decode cX5_stateOf 103 = .ok (.iload_n 2, 1) := by decide +kernel
theorem dX5_stateOf_104 : decode cX5_stateOf 104 = .ok (.iload 4, 2) := by decide +kernel
theorem dX5_stateOf_106 : decode cX5_stateOf 106 = .ok (.i2l, 1) := by decide +kernel
theorem dX5_stateOf_107 : decode cX5_stateOf 107 = .ok (.invokevirtual 191, 3) := by decide +kernel
theorem dX5_stateOf_110 : decode cX5_stateOf 110 = .ok (.ifCond .eq 7, 3) := by decide +kernel
theorem dX5_stateOf_113 : decode cX5_stateOf 113 = .ok (.iconst 2, 1) := by decide +kernel
theorem dX5_stateOf_114 : decode cX5_stateOf 114 = .ok (.goto 22, 3) := by decide +kernel
theorem dX5_stateOf_117 : decode cX5_stateOf 117 = .ok (.aload_n 0, 1) := by decide +kernel
theorem dX5_stateOf_118 : decode cX5_stateOf 118 = .ok (.getfield 69, 3) := by decide +kernel
theorem dX5_stateOf_121 : decode cX5_stateOf 121 = .ok (.bipush 20, 2) := by decide +kernel
theorem dX5_stateOf_123 : decode cX5_stateOf 123 = .ok (.iload_n 1, 1) := by decide +kernel
theorem dX5_stateOf_124 : decode cX5_stateOf 124 = .ok (.imul, 1) := by decide +kernel
theorem dX5_stateOf_125 : decode cX5_stateOf 125 = .ok (.iload_n 2, 1) := by decide +kernel
theorem dX5_stateOf_126 : decode cX5_stateOf 126 = .ok (.iadd, 1) := by decide +kernel
theorem dX5_stateOf_127 : decode cX5_stateOf 127 = .ok (.baload, 1) := by decide +kernel
theorem dX5_stateOf_128 : decode cX5_stateOf 128 = .ok (.ifCond .eq 7, 3) := by decide +kernel
theorem dX5_stateOf_131 : decode cX5_stateOf 131 = .ok (.iconst 3, 1) := by decide +kernel
theorem dX5_stateOf_132 : decode cX5_stateOf 132 = .ok (.goto 4, 3) := by decide +kernel
theorem dX5_stateOf_135 : decode cX5_stateOf 135 = .ok (.iconst 4, 1) := by decide +kernel
theorem dX5_stateOf_136 : decode cX5_stateOf 136 = .ok (.ireturn, 1) := by decide +kernel
theorem dX5_state_0 : decode cX5_state 0 = .ok (.aload_n 0, 1) := by decide +kernel
theorem dX5_state_1 : decode cX5_state 1 = .ok (.aload_n 0, 1) := by decide +kernel
theorem dX5_state_2 : decode cX5_state 2 = .ok (.iload_n 1, 1) := by decide +kernel
theorem dX5_state_3 : decode cX5_state 3 = .ok (.invokevirtual 180, 3) := by decide +kernel
theorem dX5_state_6 : decode cX5_state 6 = .ok (.ifCond .eq 14, 3) := by decide +kernel
theorem dX5_state_9 : decode cX5_state 9 = .ok (.iload_n 2, 1) := by decide +kernel
theorem dX5_state_10 : decode cX5_state 10 = .ok (.invokestatic 100, 3) := by decide +kernel
theorem dX5_state_13 : decode cX5_state 13 = .ok (.ifCond .eq 7, 3) := by decide +kernel
theorem dX5_state_16 : decode cX5_state 16 = .ok (.iconst 0, 1) := by decide +kernel
theorem dX5_state_17 : decode cX5_state 17 = .ok (.goto 4, 3) := by decide +kernel
theorem dX5_state_20 : decode cX5_state 20 = .ok (.iconst 1, 1) := by decide +kernel
theorem dX5_state_21 : decode cX5_state 21 = .ok (.putfield 85, 3) := by decide +kernel
theorem dX5_state_24 : decode cX5_state 24 = .ok (.aload_n 0, 1) := by decide +kernel
theorem dX5_state_25 : decode cX5_state 25 = .ok (.getfield 85, 3) := by decide +kernel
theorem dX5_state_28 : decode cX5_state 28 = .ok (.ifCond .le 5, 3) := by decide +kernel
theorem dX5_state_31 : decode cX5_state 31 = .ok (.iconst 0, 1) := by decide +kernel
theorem dX5_state_32 : decode cX5_state 32 = .ok (.ireturn, 1) := by decide +kernel
theorem dX5_state_33 : decode cX5_state 33 = .ok (.aload_n 0, 1) := by decide +kernel
theorem dX5_state_34 : decode cX5_state 34 = .ok (.invokevirtual 151, 3) := by decide +kernel
theorem dX5_state_37 : decode cX5_state 37 = .ok (.aload_n 0, 1) := by decide +kernel
theorem dX5_state_38 : decode cX5_state 38 = .ok (.iload_n 1, 1) := by decide +kernel
theorem dX5_state_39 : decode cX5_state 39 = .ok (.iload_n 2, 1) := by decide +kernel
theorem dX5_state_40 : decode cX5_state 40 = .ok (.invokevirtual 195, 3) := by decide +kernel
theorem dX5_state_43 : decode cX5_state 43 = .ok (.ireturn, 1) := by decide +kernel
theorem dX5_room_0 : decode cX5_room 0 = .ok (.aload_n 0, 1) := by decide +kernel
theorem dX5_room_1 : decode cX5_room 1 = .ok (.aload_n 0, 1) := by decide +kernel
theorem dX5_room_2 : decode cX5_room 2 = .ok (.iload_n 1, 1) := by decide +kernel
theorem dX5_room_3 : decode cX5_room 3 = .ok (.invokevirtual 180, 3) := by decide +kernel
theorem dX5_room_6 : decode cX5_room 6 = .ok (.ifCond .eq 14, 3) := by decide +kernel
theorem dX5_room_9 : decode cX5_room 9 = .ok (.iload_n 2, 1) := by decide +kernel
theorem dX5_room_10 : decode cX5_room 10 = .ok (.invokestatic 100, 3) := by decide +kernel
theorem dX5_room_13 : decode cX5_room 13 = .ok (.ifCond .eq 7, 3) := by decide +kernel
theorem dX5_room_16 : decode cX5_room 16 = .ok (.iconst 0, 1) := by decide +kernel
theorem dX5_room_17 : decode cX5_room 17 = .ok (.goto 4, 3) := by decide +kernel
theorem dX5_room_20 : decode cX5_room 20 = .ok (.iconst 1, 1) := by decide +kernel
theorem dX5_room_21 : decode cX5_room 21 = .ok (.putfield 85, 3) := by decide +kernel
theorem dX5_room_24 : decode cX5_room 24 = .ok (.aload_n 0, 1) := by decide +kernel
theorem dX5_room_25 : decode cX5_room 25 = .ok (.getfield 85, 3) := by decide +kernel
theorem dX5_room_28 : decode cX5_room 28 = .ok (.ifCond .le 5, 3) := by decide +kernel
theorem dX5_room_31 : decode cX5_room 31 = .ok (.lconst 0, 1) := by decide +kernel
theorem dX5_room_32 : decode cX5_room 32 = .ok (.lreturn, 1) := by decide +kernel
theorem dX5_room_33 : decode cX5_room 33 = .ok (.aload_n 0, 1) := by decide +kernel
theorem dX5_room_34 : decode cX5_room 34 = .ok (.invokevirtual 151, 3) := by decide +kernel
theorem dX5_room_37 : decode cX5_room 37 = .ok (.aload_n 0, 1) := by decide +kernel
theorem dX5_room_38 : decode cX5_room 38 = .ok (.getfield 37, 3) := by decide +kernel
theorem dX5_room_41 : decode cX5_room 41 = .ok (.bipush 20, 2) := by decide +kernel
theorem dX5_room_43 : decode cX5_room 43 = .ok (.aload_n 0, 1) := by decide +kernel
theorem dX5_room_44 : decode cX5_room 44 = .ok (.getfield 54, 3) := by decide +kernel
theorem dX5_room_47 : decode cX5_room 47 = .ok (.iload_n 1, 1) := by decide +kernel
theorem dX5_room_48 : decode cX5_room 48 = .ok (.iaload, 1) := by decide +kernel
theorem dX5_room_49 : decode cX5_room 49 = .ok (.imul, 1) := by decide +kernel
theorem dX5_room_50 : decode cX5_room 50 = .ok (.iload_n 2, 1) := by decide +kernel
theorem dX5_room_51 : decode cX5_room 51 = .ok (.iadd, 1) := by decide +kernel
theorem dX5_room_52 : decode cX5_room 52 = .ok (.laload, 1) := by decide +kernel
theorem dX5_room_53 : decode cX5_room 53 = .ok (.aload_n 0, 1) := by decide +kernel
theorem dX5_room_54 : decode cX5_room 54 = .ok (.getfield 66, 3) := by decide +kernel
theorem dX5_room_57 : decode cX5_room 57 = .ok (.bipush 20, 2) := by decide +kernel
theorem dX5_room_59 : decode cX5_room 59 = .ok (.iload_n 1, 1) := by decide +kernel
theorem dX5_room_60 : decode cX5_room 60 = .ok (.imul, 1) := by decide +kernel
theorem dX5_room_61 : decode cX5_room 61 = .ok (.iload_n 2, 1) := by decide +kernel
theorem dX5_room_62 : decode cX5_room 62 = .ok (.iadd, 1) := by decide +kernel
theorem dX5_room_63 : decode cX5_room 63 = .ok (.iaload, 1) := by decide +kernel
theorem dX5_room_64 : decode cX5_room 64 = .ok (.i2l, 1) := by decide +kernel
theorem dX5_room_65 : decode cX5_room 65 = .ok (.ladd, 1) := by decide +kernel
theorem dX5_room_66 : decode cX5_room 66 = .ok (.lstore_n 3, 1) := by decide +kernel
theorem dX5_room_67 : decode cX5_room 67 = .ok (.aload_n 0, 1) := by decide +kernel
theorem dX5_room_68 : decode cX5_room 68 = .ok (.iload_n 1, 1) := by decide +kernel
theorem dX5_room_69 : decode cX5_room 69 = .ok (.iload_n 2, 1) := by decide +kernel
theorem dX5_room_70 : decode cX5_room 70 = .ok (.invokevirtual 188, 3) := by decide +kernel
theorem dX5_room_73 : decode cX5_room 73 = .ok (.istore 5, 2) := by decide +kernel
theorem dX5_room_75 : decode cX5_room 75 = .ok (.aload_n 0, 1) := by decide +kernel
theorem dX5_room_76 : decode cX5_room 76 = .ok (.iload 5, 2) := by decide +kernel
theorem dX5_room_78 : decode cX5_room 78 = .ok (.iconst (-1), 1) := by decide +kernel
theorem dX5_room_79 : decode cX5_room 79 = .ok (.if_icmp .eq 9, 3) := by decide +kernel
theorem dX5_room_82 : decode cX5_room 82 = .ok (.lload_n 3, 1) := by decide +kernel
theorem dX5_room_83 : decode cX5_room 83 = .ok (.lconst 0, 1) := by decide +kernel
theorem dX5_room_84 : decode cX5_room 84 = .ok (.lcmp, 1) := by decide +kernel
theorem dX5_room_85 : decode cX5_room 85 = .ok (.ifCond .gt 7, 3) := by decide +kernel
theorem dX5_room_88 : decode cX5_room 88 = .ok (.iconst 2, 1) := by decide +kernel
theorem dX5_room_89 : decode cX5_room 89 = .ok (.goto 4, 3) := by decide +kernel
theorem dX5_room_92 : decode cX5_room 92 = .ok (.iconst 0, 1) := by decide +kernel
theorem dX5_room_93 : decode cX5_room 93 = .ok (.putfield 85, 3) := by decide +kernel
theorem dX5_room_96 : decode cX5_room 96 = .ok (.aload_n 0, 1) := by decide +kernel
theorem dX5_room_97 : decode cX5_room 97 = .ok (.getfield 85, 3) := by decide +kernel
theorem dX5_room_100 : decode cX5_room 100 = .ok (.ifCond .le 7, 3) := by decide +kernel
theorem dX5_room_103 : decode cX5_room 103 = .ok (.lconst 0, 1) := by decide +kernel
theorem dX5_room_104 : decode cX5_room 104 = .ok (.goto 30, 3) := by decide +kernel
theorem dX5_room_107 : decode cX5_room 107 = .ok (.iload 5, 2) := by decide +kernel
theorem dX5_room_109 : decode cX5_room 109 = .ok (.i2l, 1) := by decide +kernel
theorem dX5_room_110 : decode cX5_room 110 = .ok (.lload_n 3, 1) := by decide +kernel
theorem dX5_room_111 : decode cX5_room 111 = .ok (.lmul, 1) := by decide +kernel
theorem dX5_room_112 : decode cX5_room 112 = .ok (.bipush 100, 2) := by decide +kernel
theorem dX5_room_114 : decode cX5_room 114 = .ok (.invokestatic 143, 3) := by decide +kernel
theorem dX5_room_117 : decode cX5_room 117 = .ok (.aload_n 0, 1) := by decide +kernel
theorem dX5_room_118 : decode cX5_room 118 = .ok (.getfield 37, 3) := by decide +kernel
theorem dX5_room_121 : decode cX5_room 121 = .ok (.bipush 20, 2) := by decide +kernel
theorem dX5_room_123 : decode cX5_room 123 = .ok (.aload_n 0, 1) := by decide +kernel
theorem dX5_room_124 : decode cX5_room 124 = .ok (.getfield 51, 3) := by decide +kernel
theorem dX5_room_127 : decode cX5_room 127 = .ok (.iload_n 1, 1) := by decide +kernel
theorem dX5_room_128 : decode cX5_room 128 = .ok (.iaload, 1) := by decide +kernel
theorem dX5_room_129 : decode cX5_room 129 = .ok (.imul, 1) := by decide +kernel
theorem dX5_room_130 : decode cX5_room 130 = .ok (.iload_n 2, 1) := by decide +kernel
theorem dX5_room_131 : decode cX5_room 131 = .ok (.iadd, 1) := by decide +kernel
theorem dX5_room_132 : decode cX5_room 132 = .ok (.laload, 1) := by decide +kernel
theorem dX5_room_133 : decode cX5_room 133 = .ok (.lsub, 1) := by decide +kernel
theorem dX5_room_134 : decode cX5_room 134 = .ok (.lreturn, 1) := by decide +kernel
theorem dX5_broken_0 : decode cX5_broken 0 = .ok (.aload_n 0, 1) := by decide +kernel
theorem dX5_broken_1 : decode cX5_broken 1 = .ok (.iconst 0, 1) := by decide +kernel
theorem dX5_broken_2 : decode cX5_broken 2 = .ok (.putfield 85, 3) := by decide +kernel
theorem dX5_broken_5 : decode cX5_broken 5 = .ok (.aload_n 0, 1) := by decide +kernel
theorem dX5_broken_6 : decode cX5_broken 6 = .ok (.invokevirtual 151, 3) := by decide +kernel
theorem dX5_broken_9 : decode cX5_broken 9 = .ok (.iconst 0, 1) := by decide +kernel
theorem dX5_broken_10 : decode cX5_broken 10 = .ok (.istore_n 1, 1) := by decide +kernel
theorem dX5_broken_11 : decode cX5_broken 11 = .ok (.iconst 0, 1) := by decide +kernel
theorem dX5_broken_12 : decode cX5_broken 12 = .ok (.istore_n 2, 1) := by decide +kernel
theorem dX5_broken_13 : decode cX5_broken 13 = .ok (.iload_n 2, 1) := by decide +kernel
theorem dX5_broken_14 : decode cX5_broken 14 = .ok (.aload_n 0, 1) := by decide +kernel
theorem dX5_broken_15 : decode cX5_broken 15 = .ok (.getfield 177, 3) := by decide +kernel
theorem dX5_broken_18 : decode cX5_broken 18 = .ok (.if_icmp .ge 41, 3) := by decide +kernel
theorem dX5_broken_21 : decode cX5_broken 21 = .ok (.iconst 0, 1) := by decide +kernel
theorem dX5_broken_22 : decode cX5_broken 22 = .ok (.istore_n 3, 1) := by decide +kernel
theorem dX5_broken_23 : decode cX5_broken 23 = .ok (.iload_n 3, 1) := by decide +kernel
theorem dX5_broken_24 : decode cX5_broken 24 = .ok (.bipush 20, 2) := by decide +kernel
theorem dX5_broken_26 : decode cX5_broken 26 = .ok (.if_icmp .ge 27, 3) := by decide +kernel
theorem dX5_broken_29 : decode cX5_broken 29 = .ok (.iload_n 1, 1) := by decide +kernel
theorem dX5_broken_30 : decode cX5_broken 30 = .ok (.aload_n 0, 1) := by decide +kernel
theorem dX5_broken_31 : decode cX5_broken 31 = .ok (.iload_n 2, 1) := by decide +kernel
theorem dX5_broken_32 : decode cX5_broken 32 = .ok (.iload_n 3, 1) := by decide +kernel
theorem dX5_broken_33 : decode cX5_broken 33 = .ok (.invokevirtual 195, 3) := by decide +kernel
theorem dX5_broken_36 : decode cX5_broken 36 = .ok (.iconst 4, 1) := by decide +kernel
theorem dX5_broken_37 : decode cX5_broken 37 = .ok (.if_icmp .ne 7, 3) := by decide +kernel
theorem dX5_broken_40 : decode cX5_broken 40 = .ok (.iconst 1, 1) := by decide +kernel
theorem dX5_broken_41 : decode cX5_broken 41 = .ok (.goto 4, 3) := by decide +kernel
theorem dX5_broken_44 : decode cX5_broken 44 = .ok (.iconst 0, 1) := by decide +kernel
theorem dX5_broken_45 : decode cX5_broken 45 = .ok (.iadd, 1) := by decide +kernel
theorem dX5_broken_46 : decode cX5_broken 46 = .ok (.istore_n 1, 1) := by decide +kernel
theorem dX5_broken_47 : decode cX5_broken 47 = .ok (.iinc 3 1, 3) := by decide +kernel
theorem dX5_broken_50 : decode cX5_broken 50 = .ok (.goto (-27), 3) := by decide +kernel
theorem dX5_broken_53 : decode cX5_broken 53 = .ok (.iinc 2 1, 3) := by decide +kernel
theorem dX5_broken_56 : decode cX5_broken 56 = .ok (.goto (-43), 3) := by decide +kernel
theorem dX5_broken_59 : decode cX5_broken 59 = .ok (.iload_n 1, 1) := by decide +kernel
theorem dX5_broken_60 : decode cX5_broken 60 = .ok (.ireturn, 1) := by decide +kernel
theorem dX5_isBasket_0 : decode cX5_isBasket 0 = .ok (.iload_n 1, 1) := by decide +kernel
theorem dX5_isBasket_1 : decode cX5_isBasket 1 = .ok (.iconst 0, 1) := by decide +kernel
theorem dX5_isBasket_2 : decode cX5_isBasket 2 = .ok (.aload_n 0, 1) := by decide +kernel
theorem dX5_isBasket_3 : decode cX5_isBasket 3 = .ok (.getfield 198, 3) := by decide +kernel
theorem dX5_isBasket_6 : decode cX5_isBasket 6 = .ok (.iconst 1, 1) := by decide +kernel
theorem dX5_isBasket_7 : decode cX5_isBasket 7 = .ok (.isub, 1) := by decide +kernel
theorem dX5_isBasket_8 : decode cX5_isBasket 8 = .ok (.invokestatic 89, 3) := by decide +kernel
theorem dX5_isBasket_11 : decode cX5_isBasket 11 = .ok (.ireturn, 1) := by decide +kernel
theorem dX5_basket_0 : decode cX5_basket 0 = .ok (.iload_n 1, 1) := by decide +kernel
theorem dX5_basket_1 : decode cX5_basket 1 = .ok (.iconst 0, 1) := by decide +kernel
theorem dX5_basket_2 : decode cX5_basket 2 = .ok (.ldc 104, 2) := by decide +kernel
theorem dX5_basket_4 : decode cX5_basket 4 = .ok (.invokestatic 89, 3) := by decide +kernel
theorem dX5_basket_7 : decode cX5_basket 7 = .ok (.ifCond .eq 17, 3) := by decide +kernel
theorem dX5_basket_10 : decode cX5_basket 10 = .ok (.iload_n 3, 1) := by decide +kernel
theorem dX5_basket_11 : decode cX5_basket 11 = .ok (.iconst 0, 1) := by decide +kernel
theorem dX5_basket_12 : decode cX5_basket 12 = .ok (.bipush 100, 2) := by decide +kernel
theorem dX5_basket_14 : decode cX5_basket 14 = .ok (.invokestatic 89, 3) := by decide +kernel
theorem dX5_basket_17 : decode cX5_basket 17 = .ok (.ifCond .eq 7, 3) := by decide +kernel
theorem dX5_basket_20 : decode cX5_basket 20 = .ok (.iconst 1, 1) := by decide +kernel
theorem dX5_basket_21 : decode cX5_basket 21 = .ok (.goto 4, 3) := by decide +kernel
theorem dX5_basket_24 : decode cX5_basket 24 = .ok (.iconst 0, 1) := by decide +kernel
theorem dX5_basket_25 : decode cX5_basket 25 = .ok (.istore 4, 2) := by decide +kernel
theorem dX5_basket_27 : decode cX5_basket 27 = .ok (.aload_n 0, 1) := by decide +kernel
theorem dX5_basket_28 : decode cX5_basket 28 = .ok (.iload 4, 2) := by decide +kernel
theorem dX5_basket_30 : decode cX5_basket 30 = .ok (.ifCond .ne 7, 3) := by decide +kernel
theorem dX5_basket_33 : decode cX5_basket 33 = .ok (.iconst 1, 1) := by decide +kernel
theorem dX5_basket_34 : decode cX5_basket 34 = .ok (.goto 29, 3) := by decide +kernel
theorem dX5_basket_37 : decode cX5_basket 37 = .ok (.aload_n 0, 1) := by decide +kernel
theorem dX5_basket_38 : decode cX5_basket 38 = .ok (.iload_n 2, 1) := by decide +kernel
theorem dX5_basket_39 : decode cX5_basket 39 = .ok (.invokevirtual 116, 3) := by decide +kernel
theorem dX5_basket_42 : decode cX5_basket 42 = .ok (.ifCond .ne 7, 3) := by decide +kernel
theorem dX5_basket_45 : decode cX5_basket 45 = .ok (.iconst 2, 1) := by decide +kernel
theorem dX5_basket_46 : decode cX5_basket 46 = .ok (.goto 17, 3) := by decide +kernel
theorem dX5_basket_49 : decode cX5_basket 49 = .ok (.aload_n 0, 1) := by decide +kernel
theorem dX5_basket_50 : decode cX5_basket 50 = .ok (.getfield 198, 3) := by decide +kernel
theorem dX5_basket_53 : decode cX5_basket 53 = .ok (.bipush 6, 2) := by decide +kernel
theorem dX5_basket_55 : decode cX5_basket 55 = .ok (.if_icmp .ne 7, 3) := by decide +kernel
theorem dX5_basket_58 : decode cX5_basket 58 = .ok (.iconst 3, 1) := by decide +kernel
theorem dX5_basket_59 : decode cX5_basket 59 = .ok (.goto 4, 3) := by decide +kernel
theorem dX5_basket_62 : decode cX5_basket 62 = .ok (.iconst 0, 1) := by decide +kernel
theorem dX5_basket_63 : decode cX5_basket 63 = .ok (.putfield 85, 3) := by decide +kernel
theorem dX5_basket_66 : decode cX5_basket 66 = .ok (.aload_n 0, 1) := by decide +kernel
theorem dX5_basket_67 : decode cX5_basket 67 = .ok (.getfield 85, 3) := by decide +kernel
theorem dX5_basket_70 : decode cX5_basket 70 = .ok (.ifCond .le 5, 3) := by decide +kernel
theorem dX5_basket_73 : decode cX5_basket 73 = .ok (.iconst 0, 1) := by decide +kernel
theorem dX5_basket_74 : decode cX5_basket 74 = .ok (.ireturn, 1) := by decide +kernel
theorem dX5_basket_75 : decode cX5_basket 75 = .ok (.aload_n 0, 1) := by decide +kernel
theorem dX5_basket_76 : decode cX5_basket 76 = .ok (.getfield 73, 3) := by decide +kernel
theorem dX5_basket_79 : decode cX5_basket 79 = .ok (.aload_n 0, 1) := by decide +kernel
theorem dX5_basket_80 : decode cX5_basket 80 = .ok (.getfield 198, 3) := by decide +kernel
theorem dX5_basket_83 : decode cX5_basket 83 = .ok (.iload_n 1, 1) := by decide +kernel
theorem dX5_basket_84 : decode cX5_basket 84 = .ok (.iastore, 1) := by decide +kernel
theorem dX5_basket_85 : decode cX5_basket 85 = .ok (.aload_n 0, 1) := by decide +kernel
theorem dX5_basket_86 : decode cX5_basket 86 = .ok (.getfield 76, 3) := by decide +kernel
theorem dX5_basket_89 : decode cX5_basket 89 = .ok (.aload_n 0, 1) := by decide +kernel
theorem dX5_basket_90 : decode cX5_basket 90 = .ok (.getfield 198, 3) := by decide +kernel
theorem dX5_basket_93 : decode cX5_basket 93 = .ok (.iload_n 2, 1) := by decide +kernel
theorem dX5_basket_94 : decode cX5_basket 94 = .ok (.iastore, 1) := by decide +kernel
theorem dX5_basket_95 : decode cX5_basket 95 = .ok (.aload_n 0, 1) := by decide +kernel
theorem dX5_basket_96 : decode cX5_basket 96 = .ok (.getfield 79, 3) := by decide +kernel
theorem dX5_basket_99 : decode cX5_basket 99 = .ok (.aload_n 0, 1) := by decide +kernel
theorem dX5_basket_100 : decode cX5_basket 100 = .ok (.getfield 198, 3) := by decide +kernel
theorem dX5_basket_103 : decode cX5_basket 103 = .ok (.iload_n 3, 1) := by decide +kernel
theorem dX5_basket_104 : decode cX5_basket 104 = .ok (.iastore, 1) := by decide +kernel
theorem dX5_basket_105 : decode cX5_basket 105 = .ok (.aload_n 0, 1) := by decide +kernel
theorem dX5_basket_106 : decode cX5_basket 106 = .ok (.dup, 1) := by decide +kernel
theorem dX5_basket_107 : decode cX5_basket 107 = .ok (.getfield 198, 3) := by decide +kernel
theorem dX5_basket_110 : decode cX5_basket 110 = .ok (.iconst 1, 1) := by decide +kernel
theorem dX5_basket_111 : decode cX5_basket 111 = .ok (.iadd, 1) := by decide +kernel
theorem dX5_basket_112 : decode cX5_basket 112 = .ok (.putfield 198, 3) := by decide +kernel
theorem dX5_basket_115 : decode cX5_basket 115 = .ok (.aload_n 0, 1) := by decide +kernel
theorem dX5_basket_116 : decode cX5_basket 116 = .ok (.getfield 198, 3) := by decide +kernel
theorem dX5_basket_119 : decode cX5_basket 119 = .ok (.iconst 1, 1) := by decide +kernel
theorem dX5_basket_120 : decode cX5_basket 120 = .ok (.isub, 1) := by decide +kernel
theorem dX5_basket_121 : decode cX5_basket 121 = .ok (.ireturn, 1) := by decide +kernel
theorem dX5_sizeOf_0 : decode cX5_sizeOf 0 = .ok (.aload_n 0, 1) := by decide +kernel
theorem dX5_sizeOf_1 : decode cX5_sizeOf 1 = .ok (.invokevirtual 151, 3) := by decide +kernel
theorem dX5_sizeOf_4 : decode cX5_sizeOf 4 = .ok (.aload_n 0, 1) := by decide +kernel
theorem dX5_sizeOf_5 : decode cX5_sizeOf 5 = .ok (.getfield 37, 3) := by decide +kernel
theorem dX5_sizeOf_8 : decode cX5_sizeOf 8 = .ok (.bipush 20, 2) := by decide +kernel
theorem dX5_sizeOf_10 : decode cX5_sizeOf 10 = .ok (.aload_n 0, 1) := by decide +kernel
theorem dX5_sizeOf_11 : decode cX5_sizeOf 11 = .ok (.getfield 76, 3) := by decide +kernel
theorem dX5_sizeOf_14 : decode cX5_sizeOf 14 = .ok (.iload_n 1, 1) := by decide +kernel
theorem dX5_sizeOf_15 : decode cX5_sizeOf 15 = .ok (.iaload, 1) := by decide +kernel
theorem dX5_sizeOf_16 : decode cX5_sizeOf 16 = .ok (.imul, 1) := by decide +kernel
theorem dX5_sizeOf_17 : decode cX5_sizeOf 17 = .ok (.iload_n 2, 1) := by decide +kernel
theorem dX5_sizeOf_18 : decode cX5_sizeOf 18 = .ok (.iadd, 1) := by decide +kernel
theorem dX5_sizeOf_19 : decode cX5_sizeOf 19 = .ok (.laload, 1) := by decide +kernel
theorem dX5_sizeOf_20 : decode cX5_sizeOf 20 = .ok (.lstore_n 3, 1) := by decide +kernel
theorem dX5_sizeOf_21 : decode cX5_sizeOf 21 = .ok (.aload_n 0, 1) := by decide +kernel
theorem dX5_sizeOf_22 : decode cX5_sizeOf 22 = .ok (.getfield 73, 3) := by decide +kernel
theorem dX5_sizeOf_25 : decode cX5_sizeOf 25 = .ok (.iload_n 1, 1) := by decide +kernel
theorem dX5_sizeOf_26 : decode cX5_sizeOf 26 = .ok (.iaload, 1) := by decide +kernel
theorem dX5_sizeOf_27 : decode cX5_sizeOf 27 = .ok (.i2l, 1) := by decide +kernel
theorem dX5_sizeOf_28 : decode cX5_sizeOf 28 = .ok (.lload_n 3, 1) := by decide +kernel
theorem dX5_sizeOf_29 : decode cX5_sizeOf 29 = .ok (.lconst 0, 1) := by decide +kernel
theorem dX5_sizeOf_30 : decode cX5_sizeOf 30 = .ok (.lcmp, 1) := by decide +kernel
theorem dX5_sizeOf_31 : decode cX5_sizeOf 31 = .ok (.ifCond .le 19, 3) := by decide +kernel
theorem dX5_sizeOf_34 : decode cX5_sizeOf 34 = .ok (.lload_n 3, 1) := by decide +kernel
theorem dX5_sizeOf_35 : decode cX5_sizeOf 35 = .ok (.aload_n 0, 1) := by decide +kernel
theorem dX5_sizeOf_36 : decode cX5_sizeOf 36 = .ok (.getfield 79, 3) := by decide +kernel
theorem dX5_sizeOf_39 : decode cX5_sizeOf 39 = .ok (.iload_n 1, 1) := by decide +kernel
theorem dX5_sizeOf_40 : decode cX5_sizeOf 40 = .ok (.iaload, 1) := by decide +kernel
theorem dX5_sizeOf_41 : decode cX5_sizeOf 41 = .ok (.i2l, 1) := by decide +kernel
theorem dX5_sizeOf_42 : decode cX5_sizeOf 42 = .ok (.lmul, 1) := by decide +kernel
theorem dX5_sizeOf_43 : decode cX5_sizeOf 43 = .ok (.ldc2_w 186, 3) := by decide +kernel
theorem dX5_sizeOf_46 : decode cX5_sizeOf 46 = .ok (.ldiv, 1) := by decide +kernel
theorem dX5_sizeOf_47 : decode cX5_sizeOf 47 = .ok (.goto 4, 3) := by decide +kernel
theorem dX5_sizeOf_50 : decode cX5_sizeOf 50 = .ok (.lconst 0, 1) := by decide +kernel
theorem dX5_sizeOf_51 : decode cX5_sizeOf 51 = .ok (.ladd, 1) := by decide +kernel
theorem dX5_sizeOf_52 : decode cX5_sizeOf 52 = .ok (.lreturn, 1) := by decide +kernel
theorem dX5_size_0 : decode cX5_size 0 = .ok (.aload_n 0, 1) := by decide +kernel
theorem dX5_size_1 : decode cX5_size 1 = .ok (.aload_n 0, 1) := by decide +kernel
theorem dX5_size_2 : decode cX5_size 2 = .ok (.iload_n 1, 1) := by decide +kernel
theorem dX5_size_3 : decode cX5_size 3 = .ok (.invokevirtual 201, 3) := by decide +kernel
theorem dX5_size_6 : decode cX5_size 6 = .ok (.ifCond .eq 14, 3) := by decide +kernel
theorem dX5_size_9 : decode cX5_size 9 = .ok (.iload_n 2, 1) := by decide +kernel
theorem dX5_size_10 : decode cX5_size 10 = .ok (.invokestatic 100, 3) := by decide +kernel
theorem dX5_size_13 : decode cX5_size 13 = .ok (.ifCond .eq 7, 3) := by decide +kernel
theorem dX5_size_16 : decode cX5_size 16 = .ok (.iconst 0, 1) := by decide +kernel
theorem dX5_size_17 : decode cX5_size 17 = .ok (.goto 4, 3) := by decide +kernel
theorem dX5_size_20 : decode cX5_size 20 = .ok (.iconst 1, 1) := by decide +kernel
theorem dX5_size_21 : decode cX5_size 21 = .ok (.putfield 85, 3) := by decide +kernel
theorem dX5_size_24 : decode cX5_size 24 = .ok (.aload_n 0, 1) := by decide +kernel
theorem dX5_size_25 : decode cX5_size 25 = .ok (.getfield 85, 3) := by decide +kernel
theorem dX5_size_28 : decode cX5_size 28 = .ok (.ifCond .le 7, 3) := by decide +kernel
theorem dX5_size_31 : decode cX5_size 31 = .ok (.lconst 0, 1) := by decide +kernel
theorem dX5_size_32 : decode cX5_size 32 = .ok (.goto 9, 3) := by decide +kernel
theorem dX5_size_35 : decode cX5_size 35 = .ok (.aload_n 0, 1) := by decide +kernel
theorem dX5_size_36 : decode cX5_size 36 = .ok (.iload_n 1, 1) := by decide +kernel
theorem dX5_size_37 : decode cX5_size 37 = .ok (.iload_n 2, 1) := by decide +kernel
theorem dX5_size_38 : decode cX5_size 38 = .ok (.invokevirtual 204, 3) := by decide +kernel
theorem dX5_size_41 : decode cX5_size 41 = .ok (.lreturn, 1) := by decide +kernel
theorem dX5_use_0 : decode cX5_use 0 = .ok (.aload_n 0, 1) := by decide +kernel
theorem dX5_use_1 : decode cX5_use 1 = .ok (.aload_n 0, 1) := by decide +kernel
theorem dX5_use_2 : decode cX5_use 2 = .ok (.iload_n 1, 1) := by decide +kernel
theorem dX5_use_3 : decode cX5_use 3 = .ok (.invokevirtual 201, 3) := by decide +kernel
theorem dX5_use_6 : decode cX5_use 6 = .ok (.ifCond .eq 10, 3) := by decide +kernel
theorem dX5_use_9 : decode cX5_use 9 = .ok (.iload_n 2, 1) := by decide +kernel
theorem dX5_use_10 : decode cX5_use 10 = .ok (.invokestatic 100, 3) := by decide +kernel
theorem dX5_use_13 : decode cX5_use 13 = .ok (.ifCond .ne 7, 3) := by decide +kernel
theorem dX5_use_16 : decode cX5_use 16 = .ok (.iconst 1, 1) := by decide +kernel
theorem dX5_use_17 : decode cX5_use 17 = .ok (.goto 18, 3) := by decide +kernel
theorem dX5_use_20 : decode cX5_use 20 = .ok (.iload_n 3, 1) := by decide +kernel
theorem dX5_use_21 : decode cX5_use 21 = .ok (.iconst 1, 1) := by decide +kernel
theorem dX5_use_22 : decode cX5_use 22 = .ok (.ldc 104, 2) := by decide +kernel
theorem dX5_use_24 : decode cX5_use 24 = .ok (.invokestatic 89, 3) := by decide +kernel
theorem dX5_use_27 : decode cX5_use 27 = .ok (.ifCond .eq 7, 3) := by decide +kernel
theorem dX5_use_30 : decode cX5_use 30 = .ok (.iconst 0, 1) := by decide +kernel
theorem dX5_use_31 : decode cX5_use 31 = .ok (.goto 4, 3) := by decide +kernel
theorem dX5_use_34 : decode cX5_use 34 = .ok (.iconst 2, 1) := by decide +kernel
theorem dX5_use_35 : decode cX5_use 35 = .ok (.putfield 85, 3) := by decide +kernel
theorem dX5_use_38 : decode cX5_use 38 = .ok (.aload_n 0, 1) := by decide +kernel
theorem dX5_use_39 : decode cX5_use 39 = .ok (.getfield 85, 3) := by decide +kernel
theorem dX5_use_42 : decode cX5_use 42 = .ok (.ifCond .le 5, 3) := by decide +kernel
theorem dX5_use_45 : decode cX5_use 45 = .ok (.lconst 0, 1) := by decide +kernel
theorem dX5_use_46 : decode cX5_use 46 = .ok (.lreturn, 1) := by decide +kernel
theorem dX5_use_47 : decode cX5_use 47 = .ok (.aload_n 0, 1) := by decide +kernel
theorem dX5_use_48 : decode cX5_use 48 = .ok (.aload_n 0, 1) := by decide +kernel
theorem dX5_use_49 : decode cX5_use 49 = .ok (.getfield 82, 3) := by decide +kernel
theorem dX5_use_52 : decode cX5_use 52 = .ok (.iload_n 1, 1) := by decide +kernel
theorem dX5_use_53 : decode cX5_use 53 = .ok (.laload, 1) := by decide +kernel
theorem dX5_use_54 : decode cX5_use 54 = .ok (.iload_n 3, 1) := by decide +kernel
theorem dX5_use_55 : decode cX5_use 55 = .ok (.i2l, 1) := by decide +kernel
theorem dX5_use_56 : decode cX5_use 56 = .ok (.ladd, 1) := by decide +kernel
theorem dX5_use_57 : decode cX5_use 57 = .ok (.aload_n 0, 1) := by decide +kernel
theorem dX5_use_58 : decode cX5_use 58 = .ok (.iload_n 1, 1) := by decide +kernel
theorem dX5_use_59 : decode cX5_use 59 = .ok (.iload_n 2, 1) := by decide +kernel
theorem dX5_use_60 : decode cX5_use 60 = .ok (.invokevirtual 204, 3) := by decide +kernel
theorem dX5_use_63 : decode cX5_use 63 = .ok (.lcmp, 1) := by decide +kernel
theorem dX5_use_64 : decode cX5_use 64 = .ok (.ifCond .le 7, 3) := by decide +kernel
theorem dX5_use_67 : decode cX5_use 67 = .ok (.iconst 3, 1) := by decide +kernel
theorem dX5_use_68 : decode cX5_use 68 = .ok (.goto 4, 3) := by decide +kernel
theorem dX5_use_71 : decode cX5_use 71 = .ok (.iconst 0, 1) := by decide +kernel
theorem dX5_use_72 : decode cX5_use 72 = .ok (.putfield 85, 3) := by decide +kernel
theorem dX5_use_75 : decode cX5_use 75 = .ok (.aload_n 0, 1) := by decide +kernel
theorem dX5_use_76 : decode cX5_use 76 = .ok (.getfield 82, 3) := by decide +kernel
theorem dX5_use_79 : decode cX5_use 79 = .ok (.iload_n 1, 1) := by decide +kernel
theorem dX5_use_80 : decode cX5_use 80 = .ok (.dup2, 1) := by decide +kernel
theorem dX5_use_81 : decode cX5_use 81 = .ok (.laload, 1) := by decide +kernel
theorem dX5_use_82 : decode cX5_use 82 = .ok (.aload_n 0, 1) := by decide +kernel
theorem dX5_use_83 : decode cX5_use 83 = .ok (.getfield 85, 3) := by decide +kernel
theorem dX5_use_86 : decode cX5_use 86 = .ok (.ifCond .le 7, 3) := by decide +kernel
theorem dX5_use_89 : decode cX5_use 89 = .ok (.lconst 0, 1) := by decide +kernel
theorem dX5_use_90 : decode cX5_use 90 = .ok (.goto 5, 3) := by decide +kernel
theorem dX5_use_93 : decode cX5_use 93 = .ok (.iload_n 3, 1) := by decide +kernel
theorem dX5_use_94 : decode cX5_use 94 = .ok (.i2l, 1) := by decide +kernel
theorem dX5_use_95 : decode cX5_use 95 = .ok (.ladd, 1) := by decide +kernel
theorem dX5_use_96 : decode cX5_use 96 = .ok (.lastore, 1) := by decide +kernel
theorem dX5_use_97 : decode cX5_use 97 = .ok (.aload_n 0, 1) := by decide +kernel
theorem dX5_use_98 : decode cX5_use 98 = .ok (.getfield 82, 3) := by decide +kernel
theorem dX5_use_101 : decode cX5_use 101 = .ok (.iload_n 1, 1) := by decide +kernel
theorem dX5_use_102 : decode cX5_use 102 = .ok (.laload, 1) := by decide +kernel
theorem dX5_use_103 : decode cX5_use 103 = .ok (.lreturn, 1) := by decide +kernel
theorem dX5_refill_0 : decode cX5_refill 0 = .ok (.aload_n 0, 1) := by decide +kernel
theorem dX5_refill_1 : decode cX5_refill 1 = .ok (.aload_n 0, 1) := by decide +kernel
theorem dX5_refill_2 : decode cX5_refill 2 = .ok (.iload_n 1, 1) := by decide +kernel
theorem dX5_refill_3 : decode cX5_refill 3 = .ok (.invokevirtual 201, 3) := by decide +kernel
theorem dX5_refill_6 : decode cX5_refill 6 = .ok (.ifCond .ne 7, 3) := by decide +kernel
theorem dX5_refill_9 : decode cX5_refill 9 = .ok (.iconst 1, 1) := by decide +kernel
theorem dX5_refill_10 : decode cX5_refill 10 = .ok (.goto 34, 3) := by decide +kernel
theorem dX5_refill_13 : decode cX5_refill 13 = .ok (.iload_n 2, 1) := by decide +kernel
theorem dX5_refill_14 : decode cX5_refill 14 = .ok (.iconst 1, 1) := by decide +kernel
theorem dX5_refill_15 : decode cX5_refill 15 = .ok (.ldc 104, 2) := by decide +kernel
theorem dX5_refill_17 : decode cX5_refill 17 = .ok (.invokestatic 89, 3) := by decide +kernel
theorem dX5_refill_20 : decode cX5_refill 20 = .ok (.ifCond .ne 7, 3) := by decide +kernel
theorem dX5_refill_23 : decode cX5_refill 23 = .ok (.iconst 2, 1) := by decide +kernel
theorem dX5_refill_24 : decode cX5_refill 24 = .ok (.goto 20, 3) := by decide +kernel
theorem dX5_refill_27 : decode cX5_refill 27 = .ok (.aload_n 0, 1) := by decide +kernel
theorem dX5_refill_28 : decode cX5_refill 28 = .ok (.getfield 82, 3) := by decide +kernel
theorem dX5_refill_31 : decode cX5_refill 31 = .ok (.iload_n 1, 1) := by decide +kernel
theorem dX5_refill_32 : decode cX5_refill 32 = .ok (.laload, 1) := by decide +kernel
theorem dX5_refill_33 : decode cX5_refill 33 = .ok (.iload_n 2, 1) := by decide +kernel
theorem dX5_refill_34 : decode cX5_refill 34 = .ok (.i2l, 1) := by decide +kernel
theorem dX5_refill_35 : decode cX5_refill 35 = .ok (.lcmp, 1) := by decide +kernel
theorem dX5_refill_36 : decode cX5_refill 36 = .ok (.ifCond .ge 7, 3) := by decide +kernel
theorem dX5_refill_39 : decode cX5_refill 39 = .ok (.iconst 3, 1) := by decide +kernel
theorem dX5_refill_40 : decode cX5_refill 40 = .ok (.goto 4, 3) := by decide +kernel
theorem dX5_refill_43 : decode cX5_refill 43 = .ok (.iconst 0, 1) := by decide +kernel
theorem dX5_refill_44 : decode cX5_refill 44 = .ok (.putfield 85, 3) := by decide +kernel
theorem dX5_refill_47 : decode cX5_refill 47 = .ok (.aload_n 0, 1) := by decide +kernel
theorem dX5_refill_48 : decode cX5_refill 48 = .ok (.getfield 85, 3) := by decide +kernel
theorem dX5_refill_51 : decode cX5_refill 51 = .ok (.ifCond .le 5, 3) := by decide +kernel
theorem dX5_refill_54 : decode cX5_refill 54 = .ok (.lconst 0, 1) := by decide +kernel
theorem dX5_refill_55 : decode cX5_refill 55 = .ok (.lreturn, 1) := by decide +kernel
theorem dX5_refill_56 : decode cX5_refill 56 = .ok (.aload_n 0, 1) := by decide +kernel
theorem dX5_refill_57 : decode cX5_refill 57 = .ok (.getfield 82, 3) := by decide +kernel
theorem dX5_refill_60 : decode cX5_refill 60 = .ok (.iload_n 1, 1) := by decide +kernel
theorem dX5_refill_61 : decode cX5_refill 61 = .ok (.dup2, 1) := by decide +kernel
theorem dX5_refill_62 : decode cX5_refill 62 = .ok (.laload, 1) := by decide +kernel
theorem dX5_refill_63 : decode cX5_refill 63 = .ok (.iload_n 2, 1) := by decide +kernel
theorem dX5_refill_64 : decode cX5_refill 64 = .ok (.i2l, 1) := by decide +kernel
theorem dX5_refill_65 : decode cX5_refill 65 = .ok (.lsub, 1) := by decide +kernel
theorem dX5_refill_66 : decode cX5_refill 66 = .ok (.lastore, 1) := by decide +kernel
theorem dX5_refill_67 : decode cX5_refill 67 = .ok (.aload_n 0, 1) := by decide +kernel
theorem dX5_refill_68 : decode cX5_refill 68 = .ok (.getfield 82, 3) := by decide +kernel
theorem dX5_refill_71 : decode cX5_refill 71 = .ok (.iload_n 1, 1) := by decide +kernel
theorem dX5_refill_72 : decode cX5_refill 72 = .ok (.laload, 1) := by decide +kernel
theorem dX5_refill_73 : decode cX5_refill 73 = .ok (.lreturn, 1) := by decide +kernel
end
section
theorem dL_amount_0 : decode cL_amount 0 = .ok (.aload 4, 2) := by decide +kernel
theorem dL_amount_2 : decode cL_amount 2 = .ok (.iconst 0, 1) := by decide +kernel
theorem dL_amount_3 : decode cL_amount 3 = .ok (.aload_n 0, 1) := by decide +kernel
theorem dL_amount_4 : decode cL_amount 4 = .ok (.iload_n 1, 1) := by decide +kernel
theorem dL_amount_5 : decode cL_amount 5 = .ok (.iload_n 2, 1) := by decide +kernel
theorem dL_amount_6 : decode cL_amount 6 = .ok (.iload_n 3, 1) := by decide +kernel
theorem dL_amount_7 : decode cL_amount 7 = .ok (.invokevirtual 7, 3) := by decide +kernel
theorem dL_amount_10 : decode cL_amount 10 = .ok (.i2l, 1) := by decide +kernel
theorem dL_amount_11 : decode cL_amount 11 = .ok (.lastore, 1) := by decide +kernel
theorem dL_amount_12 : decode cL_amount 12 = .ok (.goto 11, 3) := by decide +kernel
theorem dL_amount_15 : decode cL_amount 15 = .ok (.astore 5, 2) := by decide +kernel
theorem dL_amount_17 : decode cL_amount 17 = .ok (.iconst 1, 1) := by decide +kernel
theorem dL_amount_18 : decode cL_amount 18 = .ok (.ireturn, 1) := by decide +kernel
theorem dL_amount_19 : decode cL_amount 19 = .ok (.astore 5, 2) := by decide +kernel
theorem dL_amount_21 : decode cL_amount 21 = .ok (.iconst 2, 1) := by decide +kernel
theorem dL_amount_22 : decode cL_amount 22 = .ok (.ireturn, 1) := by decide +kernel
theorem dL_amount_23 : decode cL_amount 23 = .ok (.iconst 0, 1) := by decide +kernel
theorem dL_amount_24 : decode cL_amount 24 = .ok (.ireturn, 1) := by decide +kernel
theorem dL_account_0 : decode cL_account 0 = .ok (.aload_n 2, 1) := by decide +kernel
theorem dL_account_1 : decode cL_account 1 = .ok (.iconst 0, 1) := by decide +kernel
theorem dL_account_2 : decode cL_account 2 = .ok (.aload_n 0, 1) := by decide +kernel
theorem dL_account_3 : decode cL_account 3 = .ok (.iload_n 1, 1) := by decide +kernel
theorem dL_account_4 : decode cL_account 4 = .ok (.invokevirtual 17, 3) := by decide +kernel
theorem dL_account_7 : decode cL_account 7 = .ok (.i2l, 1) := by decide +kernel
theorem dL_account_8 : decode cL_account 8 = .ok (.lastore, 1) := by decide +kernel
theorem dL_account_9 : decode cL_account 9 = .ok (.goto 9, 3) := by decide +kernel
theorem dL_account_12 : decode cL_account 12 = .ok (.astore_n 3, 1) := by decide +kernel
theorem dL_account_13 : decode cL_account 13 = .ok (.iconst 1, 1) := by decide +kernel
theorem dL_account_14 : decode cL_account 14 = .ok (.ireturn, 1) := by decide +kernel
theorem dL_account_15 : decode cL_account 15 = .ok (.astore_n 3, 1) := by decide +kernel
theorem dL_account_16 : decode cL_account 16 = .ok (.iconst 2, 1) := by decide +kernel
theorem dL_account_17 : decode cL_account 17 = .ok (.ireturn, 1) := by decide +kernel
theorem dL_account_18 : decode cL_account 18 = .ok (.iconst 0, 1) := by decide +kernel
theorem dL_account_19 : decode cL_account 19 = .ok (.ireturn, 1) := by decide +kernel
theorem dL_number_0 : decode cL_number 0 = .ok (.aload_n 2, 1) := by decide +kernel
theorem dL_number_1 : decode cL_number 1 = .ok (.iconst 0, 1) := by decide +kernel
theorem dL_number_2 : decode cL_number 2 = .ok (.aload_n 0, 1) := by decide +kernel
theorem dL_number_3 : decode cL_number 3 = .ok (.iload_n 1, 1) := by decide +kernel
theorem dL_number_4 : decode cL_number 4 = .ok (.invokevirtual 23, 3) := by decide +kernel
theorem dL_number_7 : decode cL_number 7 = .ok (.i2l, 1) := by decide +kernel
theorem dL_number_8 : decode cL_number 8 = .ok (.lastore, 1) := by decide +kernel
theorem dL_number_9 : decode cL_number 9 = .ok (.goto 9, 3) := by decide +kernel
theorem dL_number_12 : decode cL_number 12 = .ok (.astore_n 3, 1) := by decide +kernel
theorem dL_number_13 : decode cL_number 13 = .ok (.iconst 1, 1) := by decide +kernel
theorem dL_number_14 : decode cL_number 14 = .ok (.ireturn, 1) := by decide +kernel
theorem dL_number_15 : decode cL_number 15 = .ok (.astore_n 3, 1) := by decide +kernel
theorem dL_number_16 : decode cL_number 16 = .ok (.iconst 2, 1) := by decide +kernel
theorem dL_number_17 : decode cL_number 17 = .ok (.ireturn, 1) := by decide +kernel
theorem dL_number_18 : decode cL_number 18 = .ok (.iconst 0, 1) := by decide +kernel
theorem dL_number_19 : decode cL_number 19 = .ok (.ireturn, 1) := by decide +kernel
theorem dL_term_0 : decode cL_term 0 = .ok (.aload_n 2, 1) := by decide +kernel
theorem dL_term_1 : decode cL_term 1 = .ok (.iconst 0, 1) := by decide +kernel
theorem dL_term_2 : decode cL_term 2 = .ok (.aload_n 0, 1) := by decide +kernel
theorem dL_term_3 : decode cL_term 3 = .ok (.iload_n 1, 1) := by decide +kernel
theorem dL_term_4 : decode cL_term 4 = .ok (.invokevirtual 26, 3) := by decide +kernel
theorem dL_term_7 : decode cL_term 7 = .ok (.i2l, 1) := by decide +kernel
theorem dL_term_8 : decode cL_term 8 = .ok (.lastore, 1) := by decide +kernel
theorem dL_term_9 : decode cL_term 9 = .ok (.goto 9, 3) := by decide +kernel
theorem dL_term_12 : decode cL_term 12 = .ok (.astore_n 3, 1) := by decide +kernel
theorem dL_term_13 : decode cL_term 13 = .ok (.iconst 1, 1) := by decide +kernel
theorem dL_term_14 : decode cL_term 14 = .ok (.ireturn, 1) := by decide +kernel
theorem dL_term_15 : decode cL_term 15 = .ok (.astore_n 3, 1) := by decide +kernel
theorem dL_term_16 : decode cL_term 16 = .ok (.iconst 2, 1) := by decide +kernel
theorem dL_term_17 : decode cL_term 17 = .ok (.ireturn, 1) := by decide +kernel
theorem dL_term_18 : decode cL_term 18 = .ok (.iconst 0, 1) := by decide +kernel
theorem dL_term_19 : decode cL_term 19 = .ok (.ireturn, 1) := by decide +kernel
theorem dL_join_0 : decode cL_join 0 = .ok (.aload_n 2, 1) := by decide +kernel
theorem dL_join_1 : decode cL_join 1 = .ok (.iconst 0, 1) := by decide +kernel
theorem dL_join_2 : decode cL_join 2 = .ok (.aload_n 0, 1) := by decide +kernel
theorem dL_join_3 : decode cL_join 3 = .ok (.iload_n 1, 1) := by decide +kernel
theorem dL_join_4 : decode cL_join 4 = .ok (.invokevirtual 29, 3) := by decide +kernel
theorem dL_join_7 : decode cL_join 7 = .ok (.i2l, 1) := by decide +kernel
theorem dL_join_8 : decode cL_join 8 = .ok (.lastore, 1) := by decide +kernel
theorem dL_join_9 : decode cL_join 9 = .ok (.goto 9, 3) := by decide +kernel
theorem dL_join_12 : decode cL_join 12 = .ok (.astore_n 3, 1) := by decide +kernel
theorem dL_join_13 : decode cL_join 13 = .ok (.iconst 1, 1) := by decide +kernel
theorem dL_join_14 : decode cL_join 14 = .ok (.ireturn, 1) := by decide +kernel
theorem dL_join_15 : decode cL_join 15 = .ok (.astore_n 3, 1) := by decide +kernel
theorem dL_join_16 : decode cL_join 16 = .ok (.iconst 2, 1) := by decide +kernel
theorem dL_join_17 : decode cL_join 17 = .ok (.ireturn, 1) := by decide +kernel
theorem dL_join_18 : decode cL_join 18 = .ok (.iconst 0, 1) := by decide +kernel
theorem dL_join_19 : decode cL_join 19 = .ok (.ireturn, 1) := by decide +kernel
theorem dL_share_0 : decode cL_share 0 = .ok (.aload_n 2, 1) := by decide +kernel
theorem dL_share_1 : decode cL_share 1 = .ok (.iconst 0, 1) := by decide +kernel
theorem dL_share_2 : decode cL_share 2 = .ok (.aload_n 0, 1) := by decide +kernel
theorem dL_share_3 : decode cL_share 3 = .ok (.iload_n 1, 1) := by decide +kernel
theorem dL_share_4 : decode cL_share 4 = .ok (.invokevirtual 32, 3) := by decide +kernel
theorem dL_share_7 : decode cL_share 7 = .ok (.i2l, 1) := by decide +kernel
theorem dL_share_8 : decode cL_share 8 = .ok (.lastore, 1) := by decide +kernel
theorem dL_share_9 : decode cL_share 9 = .ok (.goto 9, 3) := by decide +kernel
theorem dL_share_12 : decode cL_share 12 = .ok (.astore_n 3, 1) := by decide +kernel
theorem dL_share_13 : decode cL_share 13 = .ok (.iconst 1, 1) := by decide +kernel
theorem dL_share_14 : decode cL_share 14 = .ok (.ireturn, 1) := by decide +kernel
theorem dL_share_15 : decode cL_share 15 = .ok (.astore_n 3, 1) := by decide +kernel
theorem dL_share_16 : decode cL_share 16 = .ok (.iconst 2, 1) := by decide +kernel
theorem dL_share_17 : decode cL_share 17 = .ok (.ireturn, 1) := by decide +kernel
theorem dL_share_18 : decode cL_share 18 = .ok (.iconst 0, 1) := by decide +kernel
theorem dL_share_19 : decode cL_share 19 = .ok (.ireturn, 1) := by decide +kernel
theorem dL_year_0 : decode cL_year 0 = .ok (.aload_n 1, 1) := by decide +kernel
theorem dL_year_1 : decode cL_year 1 = .ok (.iconst 0, 1) := by decide +kernel
theorem dL_year_2 : decode cL_year 2 = .ok (.aload_n 0, 1) := by decide +kernel
theorem dL_year_3 : decode cL_year 3 = .ok (.invokevirtual 35, 3) := by decide +kernel
theorem dL_year_6 : decode cL_year 6 = .ok (.i2l, 1) := by decide +kernel
theorem dL_year_7 : decode cL_year 7 = .ok (.lastore, 1) := by decide +kernel
theorem dL_year_8 : decode cL_year 8 = .ok (.goto 6, 3) := by decide +kernel
theorem dL_year_11 : decode cL_year 11 = .ok (.astore_n 2, 1) := by decide +kernel
theorem dL_year_12 : decode cL_year 12 = .ok (.iconst 1, 1) := by decide +kernel
theorem dL_year_13 : decode cL_year 13 = .ok (.ireturn, 1) := by decide +kernel
theorem dL_year_14 : decode cL_year 14 = .ok (.iconst 0, 1) := by decide +kernel
theorem dL_year_15 : decode cL_year 15 = .ok (.ireturn, 1) := by decide +kernel
theorem dL_define_0 : decode cL_define 0 = .ok (.aload_n 1, 1) := by decide +kernel
theorem dL_define_1 : decode cL_define 1 = .ok (.iconst 0, 1) := by decide +kernel
theorem dL_define_2 : decode cL_define 2 = .ok (.aload_n 0, 1) := by decide +kernel
theorem dL_define_3 : decode cL_define 3 = .ok (.invokevirtual 39, 3) := by decide +kernel
theorem dL_define_6 : decode cL_define 6 = .ok (.i2l, 1) := by decide +kernel
theorem dL_define_7 : decode cL_define 7 = .ok (.lastore, 1) := by decide +kernel
theorem dL_define_8 : decode cL_define 8 = .ok (.goto 6, 3) := by decide +kernel
theorem dL_define_11 : decode cL_define 11 = .ok (.astore_n 2, 1) := by decide +kernel
theorem dL_define_12 : decode cL_define 12 = .ok (.iconst 1, 1) := by decide +kernel
theorem dL_define_13 : decode cL_define 13 = .ok (.ireturn, 1) := by decide +kernel
theorem dL_define_14 : decode cL_define 14 = .ok (.iconst 0, 1) := by decide +kernel
theorem dL_define_15 : decode cL_define 15 = .ok (.ireturn, 1) := by decide +kernel
theorem dL_amend_0 : decode cL_amend 0 = .ok (.aload_n 3, 1) := by decide +kernel
theorem dL_amend_1 : decode cL_amend 1 = .ok (.iconst 0, 1) := by decide +kernel
theorem dL_amend_2 : decode cL_amend 2 = .ok (.aload_n 0, 1) := by decide +kernel
theorem dL_amend_3 : decode cL_amend 3 = .ok (.iload_n 1, 1) := by decide +kernel
theorem dL_amend_4 : decode cL_amend 4 = .ok (.iload_n 2, 1) := by decide +kernel
theorem dL_amend_5 : decode cL_amend 5 = .ok (.invokevirtual 42, 3) := by decide +kernel
theorem dL_amend_8 : decode cL_amend 8 = .ok (.i2l, 1) := by decide +kernel
theorem dL_amend_9 : decode cL_amend 9 = .ok (.lastore, 1) := by decide +kernel
theorem dL_amend_10 : decode cL_amend 10 = .ok (.goto 11, 3) := by decide +kernel
theorem dL_amend_13 : decode cL_amend 13 = .ok (.astore 4, 2) := by decide +kernel
theorem dL_amend_15 : decode cL_amend 15 = .ok (.iconst 1, 1) := by decide +kernel
theorem dL_amend_16 : decode cL_amend 16 = .ok (.ireturn, 1) := by decide +kernel
theorem dL_amend_17 : decode cL_amend 17 = .ok (.astore 4, 2) := by decide +kernel
theorem dL_amend_19 : decode cL_amend 19 = .ok (.iconst 2, 1) := by decide +kernel
theorem dL_amend_20 : decode cL_amend 20 = .ok (.ireturn, 1) := by decide +kernel
theorem dL_amend_21 : decode cL_amend 21 = .ok (.iconst 0, 1) := by decide +kernel
theorem dL_amend_22 : decode cL_amend 22 = .ok (.ireturn, 1) := by decide +kernel
theorem dL_level_0 : decode cL_level 0 = .ok (.aload_n 2, 1) := by decide +kernel
theorem dL_level_1 : decode cL_level 1 = .ok (.iconst 0, 1) := by decide +kernel
theorem dL_level_2 : decode cL_level 2 = .ok (.aload_n 0, 1) := by decide +kernel
theorem dL_level_3 : decode cL_level 3 = .ok (.iload_n 1, 1) := by decide +kernel
theorem dL_level_4 : decode cL_level 4 = .ok (.invokevirtual 46, 3) := by decide +kernel
theorem dL_level_7 : decode cL_level 7 = .ok (.i2l, 1) := by decide +kernel
theorem dL_level_8 : decode cL_level 8 = .ok (.lastore, 1) := by decide +kernel
theorem dL_level_9 : decode cL_level 9 = .ok (.goto 6, 3) := by decide +kernel
theorem dL_level_12 : decode cL_level 12 = .ok (.astore_n 3, 1) := by decide +kernel
theorem dL_level_13 : decode cL_level 13 = .ok (.iconst 1, 1) := by decide +kernel
theorem dL_level_14 : decode cL_level 14 = .ok (.ireturn, 1) := by decide +kernel
theorem dL_level_15 : decode cL_level 15 = .ok (.iconst 0, 1) := by decide +kernel
theorem dL_level_16 : decode cL_level 16 = .ok (.ireturn, 1) := by decide +kernel
theorem dL_value_0 : decode cL_value 0 = .ok (.aload_n 3, 1) := by decide +kernel
theorem dL_value_1 : decode cL_value 1 = .ok (.iconst 0, 1) := by decide +kernel
theorem dL_value_2 : decode cL_value 2 = .ok (.aload_n 0, 1) := by decide +kernel
theorem dL_value_3 : decode cL_value 3 = .ok (.iload_n 1, 1) := by decide +kernel
theorem dL_value_4 : decode cL_value 4 = .ok (.iload_n 2, 1) := by decide +kernel
theorem dL_value_5 : decode cL_value 5 = .ok (.invokevirtual 49, 3) := by decide +kernel
theorem dL_value_8 : decode cL_value 8 = .ok (.lastore, 1) := by decide +kernel
theorem dL_value_9 : decode cL_value 9 = .ok (.goto 7, 3) := by decide +kernel
theorem dL_value_12 : decode cL_value 12 = .ok (.astore 4, 2) := by decide +kernel
theorem dL_value_14 : decode cL_value 14 = .ok (.iconst 1, 1) := by decide +kernel
theorem dL_value_15 : decode cL_value 15 = .ok (.ireturn, 1) := by decide +kernel
theorem dL_value_16 : decode cL_value 16 = .ok (.iconst 0, 1) := by decide +kernel
theorem dL_value_17 : decode cL_value 17 = .ok (.ireturn, 1) := by decide +kernel
theorem dL_textLength_0 : decode cL_textLength 0 = .ok (.aload_n 3, 1) := by decide +kernel
theorem dL_textLength_1 : decode cL_textLength 1 = .ok (.iconst 0, 1) := by decide +kernel
theorem dL_textLength_2 : decode cL_textLength 2 = .ok (.aload_n 0, 1) := by decide +kernel
theorem dL_textLength_3 : decode cL_textLength 3 = .ok (.iload_n 1, 1) := by decide +kernel
theorem dL_textLength_4 : decode cL_textLength 4 = .ok (.iload_n 2, 1) := by decide +kernel
theorem dL_textLength_5 : decode cL_textLength 5 = .ok (.invokevirtual 53, 3) := by decide +kernel
theorem dL_textLength_8 : decode cL_textLength 8 = .ok (.i2l, 1) := by decide +kernel
theorem dL_textLength_9 : decode cL_textLength 9 = .ok (.lastore, 1) := by decide +kernel
theorem dL_textLength_10 : decode cL_textLength 10 = .ok (.goto 7, 3) := by decide +kernel
theorem dL_textLength_13 : decode cL_textLength 13 = .ok (.astore 4, 2) := by decide +kernel
theorem dL_textLength_15 : decode cL_textLength 15 = .ok (.iconst 1, 1) := by decide +kernel
theorem dL_textLength_16 : decode cL_textLength 16 = .ok (.ireturn, 1) := by decide +kernel
theorem dL_textLength_17 : decode cL_textLength 17 = .ok (.iconst 0, 1) := by decide +kernel
theorem dL_textLength_18 : decode cL_textLength 18 = .ok (.ireturn, 1) := by decide +kernel
theorem dL_textChar_0 : decode cL_textChar 0 = .ok (.aload 4, 2) := by decide +kernel
theorem dL_textChar_2 : decode cL_textChar 2 = .ok (.iconst 0, 1) := by decide +kernel
theorem dL_textChar_3 : decode cL_textChar 3 = .ok (.aload_n 0, 1) := by decide +kernel
theorem dL_textChar_4 : decode cL_textChar 4 = .ok (.iload_n 1, 1) := by decide +kernel
theorem dL_textChar_5 : decode cL_textChar 5 = .ok (.iload_n 2, 1) := by decide +kernel
theorem dL_textChar_6 : decode cL_textChar 6 = .ok (.iload_n 3, 1) := by decide +kernel
theorem dL_textChar_7 : decode cL_textChar 7 = .ok (.invokevirtual 56, 3) := by decide +kernel
theorem dL_textChar_10 : decode cL_textChar 10 = .ok (.i2l, 1) := by decide +kernel
theorem dL_textChar_11 : decode cL_textChar 11 = .ok (.lastore, 1) := by decide +kernel
theorem dL_textChar_12 : decode cL_textChar 12 = .ok (.goto 7, 3) := by decide +kernel
theorem dL_textChar_15 : decode cL_textChar 15 = .ok (.astore 5, 2) := by decide +kernel
theorem dL_textChar_17 : decode cL_textChar 17 = .ok (.iconst 1, 1) := by decide +kernel
theorem dL_textChar_18 : decode cL_textChar 18 = .ok (.ireturn, 1) := by decide +kernel
theorem dL_textChar_19 : decode cL_textChar 19 = .ok (.iconst 0, 1) := by decide +kernel
theorem dL_textChar_20 : decode cL_textChar 20 = .ok (.ireturn, 1) := by decide +kernel
theorem dL_test_0 : decode cL_test 0 = .ok (.aload_n 3, 1) := by decide +kernel
theorem dL_test_1 : decode cL_test 1 = .ok (.iconst 0, 1) := by decide +kernel
theorem dL_test_2 : decode cL_test 2 = .ok (.aload_n 0, 1) := by decide +kernel
theorem dL_test_3 : decode cL_test 3 = .ok (.iload_n 1, 1) := by decide +kernel
theorem dL_test_4 : decode cL_test 4 = .ok (.iload_n 2, 1) := by decide +kernel
theorem dL_test_5 : decode cL_test 5 = .ok (.invokevirtual 60, 3) := by decide +kernel
theorem dL_test_8 : decode cL_test 8 = .ok (.i2l, 1) := by decide +kernel
theorem dL_test_9 : decode cL_test 9 = .ok (.lastore, 1) := by decide +kernel
theorem dL_test_10 : decode cL_test 10 = .ok (.goto 11, 3) := by decide +kernel
theorem dL_test_13 : decode cL_test 13 = .ok (.astore 4, 2) := by decide +kernel
theorem dL_test_15 : decode cL_test 15 = .ok (.iconst 1, 1) := by decide +kernel
theorem dL_test_16 : decode cL_test 16 = .ok (.ireturn, 1) := by decide +kernel
theorem dL_test_17 : decode cL_test 17 = .ok (.astore 4, 2) := by decide +kernel
theorem dL_test_19 : decode cL_test 19 = .ok (.iconst 2, 1) := by decide +kernel
theorem dL_test_20 : decode cL_test 20 = .ok (.ireturn, 1) := by decide +kernel
theorem dL_test_21 : decode cL_test 21 = .ok (.iconst 0, 1) := by decide +kernel
theorem dL_test_22 : decode cL_test 22 = .ok (.ireturn, 1) := by decide +kernel
theorem dL_limit_0 : decode cL_limit 0 = .ok (.aload 4, 2) := by decide +kernel
theorem dL_limit_2 : decode cL_limit 2 = .ok (.iconst 0, 1) := by decide +kernel
theorem dL_limit_3 : decode cL_limit 3 = .ok (.aload_n 0, 1) := by decide +kernel
theorem dL_limit_4 : decode cL_limit 4 = .ok (.iload_n 1, 1) := by decide +kernel
theorem dL_limit_5 : decode cL_limit 5 = .ok (.iload_n 2, 1) := by decide +kernel
theorem dL_limit_6 : decode cL_limit 6 = .ok (.iload_n 3, 1) := by decide +kernel
theorem dL_limit_7 : decode cL_limit 7 = .ok (.invokevirtual 63, 3) := by decide +kernel
theorem dL_limit_10 : decode cL_limit 10 = .ok (.i2l, 1) := by decide +kernel
theorem dL_limit_11 : decode cL_limit 11 = .ok (.lastore, 1) := by decide +kernel
theorem dL_limit_12 : decode cL_limit 12 = .ok (.goto 11, 3) := by decide +kernel
theorem dL_limit_15 : decode cL_limit 15 = .ok (.astore 5, 2) := by decide +kernel
theorem dL_limit_17 : decode cL_limit 17 = .ok (.iconst 1, 1) := by decide +kernel
theorem dL_limit_18 : decode cL_limit 18 = .ok (.ireturn, 1) := by decide +kernel
theorem dL_limit_19 : decode cL_limit 19 = .ok (.astore 5, 2) := by decide +kernel
theorem dL_limit_21 : decode cL_limit 21 = .ok (.iconst 2, 1) := by decide +kernel
theorem dL_limit_22 : decode cL_limit 22 = .ok (.ireturn, 1) := by decide +kernel
theorem dL_limit_23 : decode cL_limit 23 = .ok (.iconst 0, 1) := by decide +kernel
theorem dL_limit_24 : decode cL_limit 24 = .ok (.ireturn, 1) := by decide +kernel
theorem dL_wake_0 : decode cL_wake 0 = .ok (.aload 4, 2) := by decide +kernel
theorem dL_wake_2 : decode cL_wake 2 = .ok (.iconst 0, 1) := by decide +kernel
theorem dL_wake_3 : decode cL_wake 3 = .ok (.aload_n 0, 1) := by decide +kernel
theorem dL_wake_4 : decode cL_wake 4 = .ok (.iload_n 1, 1) := by decide +kernel
theorem dL_wake_5 : decode cL_wake 5 = .ok (.iload_n 2, 1) := by decide +kernel
theorem dL_wake_6 : decode cL_wake 6 = .ok (.iload_n 3, 1) := by decide +kernel
theorem dL_wake_7 : decode cL_wake 7 = .ok (.invokevirtual 66, 3) := by decide +kernel
theorem dL_wake_10 : decode cL_wake 10 = .ok (.i2l, 1) := by decide +kernel
theorem dL_wake_11 : decode cL_wake 11 = .ok (.lastore, 1) := by decide +kernel
theorem dL_wake_12 : decode cL_wake 12 = .ok (.goto 11, 3) := by decide +kernel
theorem dL_wake_15 : decode cL_wake 15 = .ok (.astore 5, 2) := by decide +kernel
theorem dL_wake_17 : decode cL_wake 17 = .ok (.iconst 1, 1) := by decide +kernel
theorem dL_wake_18 : decode cL_wake 18 = .ok (.ireturn, 1) := by decide +kernel
theorem dL_wake_19 : decode cL_wake 19 = .ok (.astore 5, 2) := by decide +kernel
theorem dL_wake_21 : decode cL_wake 21 = .ok (.iconst 2, 1) := by decide +kernel
theorem dL_wake_22 : decode cL_wake 22 = .ok (.ireturn, 1) := by decide +kernel
theorem dL_wake_23 : decode cL_wake 23 = .ok (.iconst 0, 1) := by decide +kernel
theorem dL_wake_24 : decode cL_wake 24 = .ok (.ireturn, 1) := by decide +kernel
theorem dL_cure_0 : decode cL_cure 0 = .ok (.aload 4, 2) := by decide +kernel
theorem dL_cure_2 : decode cL_cure 2 = .ok (.iconst 0, 1) := by decide +kernel
theorem dL_cure_3 : decode cL_cure 3 = .ok (.aload_n 0, 1) := by decide +kernel
theorem dL_cure_4 : decode cL_cure 4 = .ok (.iload_n 1, 1) := by decide +kernel
theorem dL_cure_5 : decode cL_cure 5 = .ok (.iload_n 2, 1) := by decide +kernel
theorem dL_cure_6 : decode cL_cure 6 = .ok (.iload_n 3, 1) := by decide +kernel
theorem dL_cure_7 : decode cL_cure 7 = .ok (.invokevirtual 69, 3) := by decide +kernel
theorem dL_cure_10 : decode cL_cure 10 = .ok (.i2l, 1) := by decide +kernel
theorem dL_cure_11 : decode cL_cure 11 = .ok (.lastore, 1) := by decide +kernel
theorem dL_cure_12 : decode cL_cure 12 = .ok (.goto 15, 3) := by decide +kernel
theorem dL_cure_15 : decode cL_cure 15 = .ok (.astore 5, 2) := by decide +kernel
theorem dL_cure_17 : decode cL_cure 17 = .ok (.iconst 1, 1) := by decide +kernel
theorem dL_cure_18 : decode cL_cure 18 = .ok (.ireturn, 1) := by decide +kernel
theorem dL_cure_19 : decode cL_cure 19 = .ok (.astore 5, 2) := by decide +kernel
theorem dL_cure_21 : decode cL_cure 21 = .ok (.iconst 2, 1) := by decide +kernel
theorem dL_cure_22 : decode cL_cure 22 = .ok (.ireturn, 1) := by decide +kernel
theorem dL_cure_23 : decode cL_cure 23 = .ok (.astore 5, 2) := by decide +kernel
theorem dL_cure_25 : decode cL_cure 25 = .ok (.iconst 3, 1) := by decide +kernel
theorem dL_cure_26 : decode cL_cure 26 = .ok (.ireturn, 1) := by decide +kernel
theorem dL_cure_27 : decode cL_cure 27 = .ok (.iconst 0, 1) := by decide +kernel
theorem dL_cure_28 : decode cL_cure 28 = .ok (.ireturn, 1) := by decide +kernel
theorem dL_waive_0 : decode cL_waive 0 = .ok (.aload_n 3, 1) := by decide +kernel
theorem dL_waive_1 : decode cL_waive 1 = .ok (.iconst 0, 1) := by decide +kernel
theorem dL_waive_2 : decode cL_waive 2 = .ok (.aload_n 0, 1) := by decide +kernel
theorem dL_waive_3 : decode cL_waive 3 = .ok (.iload_n 1, 1) := by decide +kernel
theorem dL_waive_4 : decode cL_waive 4 = .ok (.iload_n 2, 1) := by decide +kernel
theorem dL_waive_5 : decode cL_waive 5 = .ok (.invokevirtual 72, 3) := by decide +kernel
theorem dL_waive_8 : decode cL_waive 8 = .ok (.ifCond .eq 7, 3) := by decide +kernel
theorem dL_waive_11 : decode cL_waive 11 = .ok (.lconst 1, 1) := by decide +kernel
theorem dL_waive_12 : decode cL_waive 12 = .ok (.goto 4, 3) := by decide +kernel
theorem dL_waive_15 : decode cL_waive 15 = .ok (.lconst 0, 1) := by decide +kernel
theorem dL_waive_16 : decode cL_waive 16 = .ok (.lastore, 1) := by decide +kernel
theorem dL_waive_17 : decode cL_waive 17 = .ok (.goto 7, 3) := by decide +kernel
theorem dL_waive_20 : decode cL_waive 20 = .ok (.astore 4, 2) := by decide +kernel
theorem dL_waive_22 : decode cL_waive 22 = .ok (.iconst 1, 1) := by decide +kernel
theorem dL_waive_23 : decode cL_waive 23 = .ok (.ireturn, 1) := by decide +kernel
theorem dL_waive_24 : decode cL_waive 24 = .ok (.iconst 0, 1) := by decide +kernel
theorem dL_waive_25 : decode cL_waive 25 = .ok (.ireturn, 1) := by decide +kernel
theorem dL_state_0 : decode cL_state 0 = .ok (.aload_n 3, 1) := by decide +kernel
theorem dL_state_1 : decode cL_state 1 = .ok (.iconst 0, 1) := by decide +kernel
theorem dL_state_2 : decode cL_state 2 = .ok (.aload_n 0, 1) := by decide +kernel
theorem dL_state_3 : decode cL_state 3 = .ok (.iload_n 1, 1) := by decide +kernel
theorem dL_state_4 : decode cL_state 4 = .ok (.iload_n 2, 1) := by decide +kernel
theorem dL_state_5 : decode cL_state 5 = .ok (.invokevirtual 76, 3) := by decide +kernel
theorem dL_state_8 : decode cL_state 8 = .ok (.i2l, 1) := by decide +kernel
theorem dL_state_9 : decode cL_state 9 = .ok (.lastore, 1) := by decide +kernel
theorem dL_state_10 : decode cL_state 10 = .ok (.goto 7, 3) := by decide +kernel
theorem dL_state_13 : decode cL_state 13 = .ok (.astore 4, 2) := by decide +kernel
theorem dL_state_15 : decode cL_state 15 = .ok (.iconst 1, 1) := by decide +kernel
theorem dL_state_16 : decode cL_state 16 = .ok (.ireturn, 1) := by decide +kernel
theorem dL_state_17 : decode cL_state 17 = .ok (.iconst 0, 1) := by decide +kernel
theorem dL_state_18 : decode cL_state 18 = .ok (.ireturn, 1) := by decide +kernel
theorem dL_room_0 : decode cL_room 0 = .ok (.aload_n 3, 1) := by decide +kernel
theorem dL_room_1 : decode cL_room 1 = .ok (.iconst 0, 1) := by decide +kernel
theorem dL_room_2 : decode cL_room 2 = .ok (.aload_n 0, 1) := by decide +kernel
theorem dL_room_3 : decode cL_room 3 = .ok (.iload_n 1, 1) := by decide +kernel
theorem dL_room_4 : decode cL_room 4 = .ok (.iload_n 2, 1) := by decide +kernel
theorem dL_room_5 : decode cL_room 5 = .ok (.invokevirtual 79, 3) := by decide +kernel
theorem dL_room_8 : decode cL_room 8 = .ok (.lastore, 1) := by decide +kernel
theorem dL_room_9 : decode cL_room 9 = .ok (.goto 11, 3) := by decide +kernel
theorem dL_room_12 : decode cL_room 12 = .ok (.astore 4, 2) := by decide +kernel
theorem dL_room_14 : decode cL_room 14 = .ok (.iconst 1, 1) := by decide +kernel
theorem dL_room_15 : decode cL_room 15 = .ok (.ireturn, 1) := by decide +kernel
theorem dL_room_16 : decode cL_room 16 = .ok (.astore 4, 2) := by decide +kernel
theorem dL_room_18 : decode cL_room 18 = .ok (.iconst 2, 1) := by decide +kernel
theorem dL_room_19 : decode cL_room 19 = .ok (.ireturn, 1) := by decide +kernel
theorem dL_room_20 : decode cL_room 20 = .ok (.iconst 0, 1) := by decide +kernel
theorem dL_room_21 : decode cL_room 21 = .ok (.ireturn, 1) := by decide +kernel
theorem dL_basket_0 : decode cL_basket 0 = .ok (.aload 4, 2) := by decide +kernel
theorem dL_basket_2 : decode cL_basket 2 = .ok (.iconst 0, 1) := by decide +kernel
theorem dL_basket_3 : decode cL_basket 3 = .ok (.aload_n 0, 1) := by decide +kernel
theorem dL_basket_4 : decode cL_basket 4 = .ok (.iload_n 1, 1) := by decide +kernel
theorem dL_basket_5 : decode cL_basket 5 = .ok (.iload_n 2, 1) := by decide +kernel
theorem dL_basket_6 : decode cL_basket 6 = .ok (.iload_n 3, 1) := by decide +kernel
theorem dL_basket_7 : decode cL_basket 7 = .ok (.invokevirtual 82, 3) := by decide +kernel
theorem dL_basket_10 : decode cL_basket 10 = .ok (.i2l, 1) := by decide +kernel
theorem dL_basket_11 : decode cL_basket 11 = .ok (.lastore, 1) := by decide +kernel
theorem dL_basket_12 : decode cL_basket 12 = .ok (.goto 15, 3) := by decide +kernel
theorem dL_basket_15 : decode cL_basket 15 = .ok (.astore 5, 2) := by decide +kernel
theorem dL_basket_17 : decode cL_basket 17 = .ok (.iconst 1, 1) := by decide +kernel
theorem dL_basket_18 : decode cL_basket 18 = .ok (.ireturn, 1) := by decide +kernel
theorem dL_basket_19 : decode cL_basket 19 = .ok (.astore 5, 2) := by decide +kernel
theorem dL_basket_21 : decode cL_basket 21 = .ok (.iconst 2, 1) := by decide +kernel
theorem dL_basket_22 : decode cL_basket 22 = .ok (.ireturn, 1) := by decide +kernel
theorem dL_basket_23 : decode cL_basket 23 = .ok (.astore 5, 2) := by decide +kernel
theorem dL_basket_25 : decode cL_basket 25 = .ok (.iconst 3, 1) := by decide +kernel
theorem dL_basket_26 : decode cL_basket 26 = .ok (.ireturn, 1) := by decide +kernel
theorem dL_basket_27 : decode cL_basket 27 = .ok (.iconst 0, 1) := by decide +kernel
theorem dL_basket_28 : decode cL_basket 28 = .ok (.ireturn, 1) := by decide +kernel
theorem dL_size_0 : decode cL_size 0 = .ok (.aload_n 3, 1) := by decide +kernel
theorem dL_size_1 : decode cL_size 1 = .ok (.iconst 0, 1) := by decide +kernel
theorem dL_size_2 : decode cL_size 2 = .ok (.aload_n 0, 1) := by decide +kernel
theorem dL_size_3 : decode cL_size 3 = .ok (.iload_n 1, 1) := by decide +kernel
theorem dL_size_4 : decode cL_size 4 = .ok (.iload_n 2, 1) := by decide +kernel
theorem dL_size_5 : decode cL_size 5 = .ok (.invokevirtual 85, 3) := by decide +kernel
theorem dL_size_8 : decode cL_size 8 = .ok (.lastore, 1) := by decide +kernel
theorem dL_size_9 : decode cL_size 9 = .ok (.goto 7, 3) := by decide +kernel
theorem dL_size_12 : decode cL_size 12 = .ok (.astore 4, 2) := by decide +kernel
theorem dL_size_14 : decode cL_size 14 = .ok (.iconst 1, 1) := by decide +kernel
theorem dL_size_15 : decode cL_size 15 = .ok (.ireturn, 1) := by decide +kernel
theorem dL_size_16 : decode cL_size 16 = .ok (.iconst 0, 1) := by decide +kernel
theorem dL_size_17 : decode cL_size 17 = .ok (.ireturn, 1) := by decide +kernel
theorem dL_use_0 : decode cL_use 0 = .ok (.aload 4, 2) := by decide +kernel
theorem dL_use_2 : decode cL_use 2 = .ok (.iconst 0, 1) := by decide +kernel
theorem dL_use_3 : decode cL_use 3 = .ok (.aload_n 0, 1) := by decide +kernel
theorem dL_use_4 : decode cL_use 4 = .ok (.iload_n 1, 1) := by decide +kernel
theorem dL_use_5 : decode cL_use 5 = .ok (.iload_n 2, 1) := by decide +kernel
theorem dL_use_6 : decode cL_use 6 = .ok (.iload_n 3, 1) := by decide +kernel
theorem dL_use_7 : decode cL_use 7 = .ok (.invokevirtual 88, 3) := by decide +kernel
theorem dL_use_10 : decode cL_use 10 = .ok (.lastore, 1) := by decide +kernel
theorem dL_use_11 : decode cL_use 11 = .ok (.goto 15, 3) := by decide +kernel
theorem dL_use_14 : decode cL_use 14 = .ok (.astore 5, 2) := by decide +kernel
theorem dL_use_16 : decode cL_use 16 = .ok (.iconst 1, 1) := by decide +kernel
theorem dL_use_17 : decode cL_use 17 = .ok (.ireturn, 1) := by decide +kernel
theorem dL_use_18 : decode cL_use 18 = .ok (.astore 5, 2) := by decide +kernel
theorem dL_use_20 : decode cL_use 20 = .ok (.iconst 2, 1) := by decide +kernel
theorem dL_use_21 : decode cL_use 21 = .ok (.ireturn, 1) := by decide +kernel
theorem dL_use_22 : decode cL_use 22 = .ok (.astore 5, 2) := by decide +kernel
theorem dL_use_24 : decode cL_use 24 = .ok (.iconst 3, 1) := by decide +kernel
theorem dL_use_25 : decode cL_use 25 = .ok (.ireturn, 1) := by decide +kernel
theorem dL_use_26 : decode cL_use 26 = .ok (.iconst 0, 1) := by decide +kernel
theorem dL_use_27 : decode cL_use 27 = .ok (.ireturn, 1) := by decide +kernel
theorem dL_refill_0 : decode cL_refill 0 = .ok (.aload_n 3, 1) := by decide +kernel
theorem dL_refill_1 : decode cL_refill 1 = .ok (.iconst 0, 1) := by decide +kernel
theorem dL_refill_2 : decode cL_refill 2 = .ok (.aload_n 0, 1) := by decide +kernel
theorem dL_refill_3 : decode cL_refill 3 = .ok (.iload_n 1, 1) := by decide +kernel
theorem dL_refill_4 : decode cL_refill 4 = .ok (.iload_n 2, 1) := by decide +kernel
theorem dL_refill_5 : decode cL_refill 5 = .ok (.invokevirtual 92, 3) := by decide +kernel
theorem dL_refill_8 : decode cL_refill 8 = .ok (.lastore, 1) := by decide +kernel
theorem dL_refill_9 : decode cL_refill 9 = .ok (.goto 15, 3) := by decide +kernel
theorem dL_refill_12 : decode cL_refill 12 = .ok (.astore 4, 2) := by decide +kernel
theorem dL_refill_14 : decode cL_refill 14 = .ok (.iconst 1, 1) := by decide +kernel
theorem dL_refill_15 : decode cL_refill 15 = .ok (.ireturn, 1) := by decide +kernel
theorem dL_refill_16 : decode cL_refill 16 = .ok (.astore 4, 2) := by decide +kernel
theorem dL_refill_18 : decode cL_refill 18 = .ok (.iconst 2, 1) := by decide +kernel
theorem dL_refill_19 : decode cL_refill 19 = .ok (.ireturn, 1) := by decide +kernel
theorem dL_refill_20 : decode cL_refill 20 = .ok (.astore 4, 2) := by decide +kernel
theorem dL_refill_22 : decode cL_refill 22 = .ok (.iconst 3, 1) := by decide +kernel
theorem dL_refill_23 : decode cL_refill 23 = .ok (.ireturn, 1) := by decide +kernel
theorem dL_refill_24 : decode cL_refill 24 = .ok (.iconst 0, 1) := by decide +kernel
theorem dL_refill_25 : decode cL_refill 25 = .ok (.ireturn, 1) := by decide +kernel
theorem dL_law_0 : decode cL_law 0 = .ok (.new 8, 3) := by decide +kernel
theorem dL_law_3 : decode cL_law 3 = .ok (.dup, 1) := by decide +kernel
theorem dL_law_4 : decode cL_law 4 = .ok (.invokespecial 95, 3) := by decide +kernel
theorem dL_law_7 : decode cL_law 7 = .ok (.astore_n 1, 1) := by decide +kernel
theorem dL_law_8 : decode cL_law 8 = .ok (.new 96, 3) := by decide +kernel
theorem dL_law_11 : decode cL_law 11 = .ok (.dup, 1) := by decide +kernel
theorem dL_law_12 : decode cL_law 12 = .ok (.invokespecial 98, 3) := by decide +kernel
theorem dL_law_15 : decode cL_law 15 = .ok (.astore_n 2, 1) := by decide +kernel
theorem dL_law_16 : decode cL_law 16 = .ok (.iconst 1, 1) := by decide +kernel
theorem dL_law_17 : decode cL_law 17 = .ok (.newarray .long, 2) := by decide +kernel
theorem dL_law_19 : decode cL_law 19 = .ok (.astore_n 3, 1) := by decide +kernel
theorem dL_law_20 : decode cL_law 20 = .ok (.iconst 0, 1) := by decide +kernel
theorem dL_law_21 : decode cL_law 21 = .ok (.istore 4, 2) := by decide +kernel
theorem dL_law_23 : decode cL_law 23 = .ok (.iload 4, 2) := by decide +kernel
theorem dL_law_25 : decode cL_law 25 = .ok (.aload_n 0, 1) := by decide +kernel
theorem dL_law_26 : decode cL_law 26 = .ok (.arraylength, 1) := by decide +kernel
theorem dL_law_27 : decode cL_law 27 = .ok (.iconst 4, 1) := by decide +kernel
theorem dL_law_28 : decode cL_law 28 = .ok (.isub, 1) := by decide +kernel
theorem dL_law_29 : decode cL_law 29 = .ok (.if_icmp .gt 1774, 3) := by decide +kernel
theorem dL_law_32 : decode cL_law 32 = .ok (.aload_n 0, 1) := by decide +kernel
theorem dL_law_33 : decode cL_law 33 = .ok (.iload 4, 2) := by decide +kernel
theorem dL_law_35 : decode cL_law 35 = .ok (.iaload, 1) := by decide +kernel
theorem dL_law_36 : decode cL_law 36 = .ok (.bipush 31, 2) := by decide +kernel
theorem dL_law_38 : decode cL_law 38 = .ok (.iand, 1) := by decide +kernel
theorem dL_law_39 : decode cL_law 39 = .ok (.tableswitch 1758 0 26 #[121, 201, 257, 313, 369, 425, 481, 525, 538, 582, 650, 663, 719, 786, 854, 934, 1002, 1082, 1162, 1242, 1317, 1385, 1452, 1465, 1545, 1612, 1691], 121) := by decide +kernel
theorem dL_law_160 : decode cL_law 160 = .ok (.aload_n 1, 1) := by decide +kernel
theorem dL_law_161 : decode cL_law 161 = .ok (.aload_n 0, 1) := by decide +kernel
theorem dL_law_162 : decode cL_law 162 = .ok (.iload 4, 2) := by decide +kernel
theorem dL_law_164 : decode cL_law 164 = .ok (.iconst 1, 1) := by decide +kernel
theorem dL_law_165 : decode cL_law 165 = .ok (.iadd, 1) := by decide +kernel
theorem dL_law_166 : decode cL_law 166 = .ok (.iaload, 1) := by decide +kernel
theorem dL_law_167 : decode cL_law 167 = .ok (.aload_n 0, 1) := by decide +kernel
theorem dL_law_168 : decode cL_law 168 = .ok (.iload 4, 2) := by decide +kernel
theorem dL_law_170 : decode cL_law 170 = .ok (.iconst 2, 1) := by decide +kernel
theorem dL_law_171 : decode cL_law 171 = .ok (.iadd, 1) := by decide +kernel
theorem dL_law_172 : decode cL_law 172 = .ok (.iaload, 1) := by decide +kernel
theorem dL_law_173 : decode cL_law 173 = .ok (.aload_n 0, 1) := by decide +kernel
theorem dL_law_174 : decode cL_law 174 = .ok (.iload 4, 2) := by decide +kernel
theorem dL_law_176 : decode cL_law 176 = .ok (.iconst 3, 1) := by decide +kernel
theorem dL_law_177 : decode cL_law 177 = .ok (.iadd, 1) := by decide +kernel
theorem dL_law_178 : decode cL_law 178 = .ok (.iaload, 1) := by decide +kernel
theorem dL_law_179 : decode cL_law 179 = .ok (.aload_n 3, 1) := by decide +kernel
theorem dL_law_180 : decode cL_law 180 = .ok (.invokestatic 99, 3) := by decide +kernel
theorem dL_law_183 : decode cL_law 183 = .ok (.istore 5, 2) := by decide +kernel
theorem dL_law_185 : decode cL_law 185 = .ok (.aload_n 2, 1) := by decide +kernel
theorem dL_law_186 : decode cL_law 186 = .ok (.aload_n 0, 1) := by decide +kernel
theorem dL_law_187 : decode cL_law 187 = .ok (.iload 4, 2) := by decide +kernel
theorem dL_law_189 : decode cL_law 189 = .ok (.iconst 1, 1) := by decide +kernel
theorem dL_law_190 : decode cL_law 190 = .ok (.iadd, 1) := by decide +kernel
theorem dL_law_191 : decode cL_law 191 = .ok (.iaload, 1) := by decide +kernel
theorem dL_law_192 : decode cL_law 192 = .ok (.aload_n 0, 1) := by decide +kernel
theorem dL_law_193 : decode cL_law 193 = .ok (.iload 4, 2) := by decide +kernel
theorem dL_law_195 : decode cL_law 195 = .ok (.iconst 2, 1) := by decide +kernel
theorem dL_law_196 : decode cL_law 196 = .ok (.iadd, 1) := by decide +kernel
theorem dL_law_197 : decode cL_law 197 = .ok (.iaload, 1) := by decide +kernel
theorem dL_law_198 : decode cL_law 198 = .ok (.aload_n 0, 1) := by decide +kernel
theorem dL_law_199 : decode cL_law 199 = .ok (.iload 4, 2) := by decide +kernel
theorem dL_law_201 : decode cL_law 201 = .ok (.iconst 3, 1) := by decide +kernel
theorem dL_law_202 : decode cL_law 202 = .ok (.iadd, 1) := by decide +kernel
theorem dL_law_203 : decode cL_law 203 = .ok (.iaload, 1) := by decide +kernel
theorem dL_law_204 : decode cL_law 204 = .ok (.invokevirtual 104, 3) := by decide +kernel
theorem dL_law_207 : decode cL_law 207 = .ok (.istore 6, 2) := by decide +kernel
theorem dL_law_209 : decode cL_law 209 = .ok (.aload_n 2, 1) := by decide +kernel
theorem dL_law_210 : decode cL_law 210 = .ok (.invokevirtual 105, 3) := by decide +kernel
theorem dL_law_213 : decode cL_law 213 = .ok (.iload 5, 2) := by decide +kernel
theorem dL_law_215 : decode cL_law 215 = .ok (.if_icmp .eq 5, 3) := by decide +kernel
theorem dL_law_218 : decode cL_law 218 = .ok (.iconst 0, 1) := by decide +kernel
theorem dL_law_219 : decode cL_law 219 = .ok (.ireturn, 1) := by decide +kernel
theorem dL_law_220 : decode cL_law 220 = .ok (.iload 5, 2) := by decide +kernel
theorem dL_law_222 : decode cL_law 222 = .ok (.ifCond .ne 15, 3) := by decide +kernel
theorem dL_law_225 : decode cL_law 225 = .ok (.aload_n 3, 1) := by decide +kernel
theorem dL_law_226 : decode cL_law 226 = .ok (.iconst 0, 1) := by decide +kernel
theorem dL_law_227 : decode cL_law 227 = .ok (.laload, 1) := by decide +kernel
theorem dL_law_228 : decode cL_law 228 = .ok (.iload 6, 2) := by decide +kernel
theorem dL_law_230 : decode cL_law 230 = .ok (.i2l, 1) := by decide +kernel
theorem dL_law_231 : decode cL_law 231 = .ok (.lcmp, 1) := by decide +kernel
theorem dL_law_232 : decode cL_law 232 = .ok (.ifCond .eq 5, 3) := by decide +kernel
theorem dL_law_235 : decode cL_law 235 = .ok (.iconst 0, 1) := by decide +kernel
theorem dL_law_236 : decode cL_law 236 = .ok (.ireturn, 1) := by decide +kernel
theorem dL_law_237 : decode cL_law 237 = .ok (.goto 1560, 3) := by decide +kernel
theorem dL_law_240 : decode cL_law 240 = .ok (.aload_n 1, 1) := by decide +kernel
theorem dL_law_241 : decode cL_law 241 = .ok (.aload_n 0, 1) := by decide +kernel
theorem dL_law_242 : decode cL_law 242 = .ok (.iload 4, 2) := by decide +kernel
theorem dL_law_244 : decode cL_law 244 = .ok (.iconst 1, 1) := by decide +kernel
theorem dL_law_245 : decode cL_law 245 = .ok (.iadd, 1) := by decide +kernel
theorem dL_law_246 : decode cL_law 246 = .ok (.iaload, 1) := by decide +kernel
theorem dL_law_247 : decode cL_law 247 = .ok (.aload_n 3, 1) := by decide +kernel
theorem dL_law_248 : decode cL_law 248 = .ok (.invokestatic 108, 3) := by decide +kernel
theorem dL_law_251 : decode cL_law 251 = .ok (.istore 5, 2) := by decide +kernel
theorem dL_law_253 : decode cL_law 253 = .ok (.aload_n 2, 1) := by decide +kernel
theorem dL_law_254 : decode cL_law 254 = .ok (.aload_n 0, 1) := by decide +kernel
theorem dL_law_255 : decode cL_law 255 = .ok (.iload 4, 2) := by decide +kernel
theorem dL_law_257 : decode cL_law 257 = .ok (.iconst 1, 1) := by decide +kernel
theorem dL_law_258 : decode cL_law 258 = .ok (.iadd, 1) := by decide +kernel
theorem dL_law_259 : decode cL_law 259 = .ok (.iaload, 1) := by decide +kernel
theorem dL_law_260 : decode cL_law 260 = .ok (.invokevirtual 111, 3) := by decide +kernel
theorem dL_law_263 : decode cL_law 263 = .ok (.istore 6, 2) := by decide +kernel
theorem dL_law_265 : decode cL_law 265 = .ok (.aload_n 2, 1) := by decide +kernel
theorem dL_law_266 : decode cL_law 266 = .ok (.invokevirtual 105, 3) := by decide +kernel
theorem dL_law_269 : decode cL_law 269 = .ok (.iload 5, 2) := by decide +kernel
theorem dL_law_271 : decode cL_law 271 = .ok (.if_icmp .eq 5, 3) := by decide +kernel
theorem dL_law_274 : decode cL_law 274 = .ok (.iconst 0, 1) := by decide +kernel
theorem dL_law_275 : decode cL_law 275 = .ok (.ireturn, 1) := by decide +kernel
theorem dL_law_276 : decode cL_law 276 = .ok (.iload 5, 2) := by decide +kernel
theorem dL_law_278 : decode cL_law 278 = .ok (.ifCond .ne 15, 3) := by decide +kernel
theorem dL_law_281 : decode cL_law 281 = .ok (.aload_n 3, 1) := by decide +kernel
theorem dL_law_282 : decode cL_law 282 = .ok (.iconst 0, 1) := by decide +kernel
theorem dL_law_283 : decode cL_law 283 = .ok (.laload, 1) := by decide +kernel
theorem dL_law_284 : decode cL_law 284 = .ok (.iload 6, 2) := by decide +kernel
theorem dL_law_286 : decode cL_law 286 = .ok (.i2l, 1) := by decide +kernel
theorem dL_law_287 : decode cL_law 287 = .ok (.lcmp, 1) := by decide +kernel
theorem dL_law_288 : decode cL_law 288 = .ok (.ifCond .eq 5, 3) := by decide +kernel
theorem dL_law_291 : decode cL_law 291 = .ok (.iconst 0, 1) := by decide +kernel
theorem dL_law_292 : decode cL_law 292 = .ok (.ireturn, 1) := by decide +kernel
theorem dL_law_293 : decode cL_law 293 = .ok (.goto 1504, 3) := by decide +kernel
theorem dL_law_296 : decode cL_law 296 = .ok (.aload_n 1, 1) := by decide +kernel
theorem dL_law_297 : decode cL_law 297 = .ok (.aload_n 0, 1) := by decide +kernel
theorem dL_law_298 : decode cL_law 298 = .ok (.iload 4, 2) := by decide +kernel
theorem dL_law_300 : decode cL_law 300 = .ok (.iconst 1, 1) := by decide +kernel
theorem dL_law_301 : decode cL_law 301 = .ok (.iadd, 1) := by decide +kernel
theorem dL_law_302 : decode cL_law 302 = .ok (.iaload, 1) := by decide +kernel
theorem dL_law_303 : decode cL_law 303 = .ok (.aload_n 3, 1) := by decide +kernel
theorem dL_law_304 : decode cL_law 304 = .ok (.invokestatic 112, 3) := by decide +kernel
theorem dL_law_307 : decode cL_law 307 = .ok (.istore 5, 2) := by decide +kernel
theorem dL_law_309 : decode cL_law 309 = .ok (.aload_n 2, 1) := by decide +kernel
theorem dL_law_310 : decode cL_law 310 = .ok (.aload_n 0, 1) := by decide +kernel
theorem dL_law_311 : decode cL_law 311 = .ok (.iload 4, 2) := by decide +kernel
theorem dL_law_313 : decode cL_law 313 = .ok (.iconst 1, 1) := by decide +kernel
theorem dL_law_314 : decode cL_law 314 = .ok (.iadd, 1) := by decide +kernel
theorem dL_law_315 : decode cL_law 315 = .ok (.iaload, 1) := by decide +kernel
theorem dL_law_316 : decode cL_law 316 = .ok (.invokevirtual 114, 3) := by decide +kernel
theorem dL_law_319 : decode cL_law 319 = .ok (.istore 6, 2) := by decide +kernel
theorem dL_law_321 : decode cL_law 321 = .ok (.aload_n 2, 1) := by decide +kernel
theorem dL_law_322 : decode cL_law 322 = .ok (.invokevirtual 105, 3) := by decide +kernel
theorem dL_law_325 : decode cL_law 325 = .ok (.iload 5, 2) := by decide +kernel
theorem dL_law_327 : decode cL_law 327 = .ok (.if_icmp .eq 5, 3) := by decide +kernel
theorem dL_law_330 : decode cL_law 330 = .ok (.iconst 0, 1) := by decide +kernel
theorem dL_law_331 : decode cL_law 331 = .ok (.ireturn, 1) := by decide +kernel
theorem dL_law_332 : decode cL_law 332 = .ok (.iload 5, 2) := by decide +kernel
theorem dL_law_334 : decode cL_law 334 = .ok (.ifCond .ne 15, 3) := by decide +kernel
theorem dL_law_337 : decode cL_law 337 = .ok (.aload_n 3, 1) := by decide +kernel
theorem dL_law_338 : decode cL_law 338 = .ok (.iconst 0, 1) := by decide +kernel
theorem dL_law_339 : decode cL_law 339 = .ok (.laload, 1) := by decide +kernel
theorem dL_law_340 : decode cL_law 340 = .ok (.iload 6, 2) := by decide +kernel
theorem dL_law_342 : decode cL_law 342 = .ok (.i2l, 1) := by decide +kernel
theorem dL_law_343 : decode cL_law 343 = .ok (.lcmp, 1) := by decide +kernel
theorem dL_law_344 : decode cL_law 344 = .ok (.ifCond .eq 5, 3) := by decide +kernel
theorem dL_law_347 : decode cL_law 347 = .ok (.iconst 0, 1) := by decide +kernel
theorem dL_law_348 : decode cL_law 348 = .ok (.ireturn, 1) := by decide +kernel
theorem dL_law_349 : decode cL_law 349 = .ok (.goto 1448, 3) := by decide +kernel
theorem dL_law_352 : decode cL_law 352 = .ok (.aload_n 1, 1) := by decide +kernel
theorem dL_law_353 : decode cL_law 353 = .ok (.aload_n 0, 1) := by decide +kernel
theorem dL_law_354 : decode cL_law 354 = .ok (.iload 4, 2) := by decide +kernel
theorem dL_law_356 : decode cL_law 356 = .ok (.iconst 1, 1) := by decide +kernel
theorem dL_law_357 : decode cL_law 357 = .ok (.iadd, 1) := by decide +kernel
theorem dL_law_358 : decode cL_law 358 = .ok (.iaload, 1) := by decide +kernel
theorem dL_law_359 : decode cL_law 359 = .ok (.aload_n 3, 1) := by decide +kernel
theorem dL_law_360 : decode cL_law 360 = .ok (.invokestatic 115, 3) := by decide +kernel
theorem dL_law_363 : decode cL_law 363 = .ok (.istore 5, 2) := by decide +kernel
theorem dL_law_365 : decode cL_law 365 = .ok (.aload_n 2, 1) := by decide +kernel
theorem dL_law_366 : decode cL_law 366 = .ok (.aload_n 0, 1) := by decide +kernel
theorem dL_law_367 : decode cL_law 367 = .ok (.iload 4, 2) := by decide +kernel
theorem dL_law_369 : decode cL_law 369 = .ok (.iconst 1, 1) := by decide +kernel
theorem dL_law_370 : decode cL_law 370 = .ok (.iadd, 1) := by decide +kernel
theorem dL_law_371 : decode cL_law 371 = .ok (.iaload, 1) := by decide +kernel
theorem dL_law_372 : decode cL_law 372 = .ok (.invokevirtual 117, 3) := by decide +kernel
theorem dL_law_375 : decode cL_law 375 = .ok (.istore 6, 2) := by decide +kernel
theorem dL_law_377 : decode cL_law 377 = .ok (.aload_n 2, 1) := by decide +kernel
theorem dL_law_378 : decode cL_law 378 = .ok (.invokevirtual 105, 3) := by decide +kernel
theorem dL_law_381 : decode cL_law 381 = .ok (.iload 5, 2) := by decide +kernel
theorem dL_law_383 : decode cL_law 383 = .ok (.if_icmp .eq 5, 3) := by decide +kernel
theorem dL_law_386 : decode cL_law 386 = .ok (.iconst 0, 1) := by decide +kernel
theorem dL_law_387 : decode cL_law 387 = .ok (.ireturn, 1) := by decide +kernel
theorem dL_law_388 : decode cL_law 388 = .ok (.iload 5, 2) := by decide +kernel
theorem dL_law_390 : decode cL_law 390 = .ok (.ifCond .ne 15, 3) := by decide +kernel
theorem dL_law_393 : decode cL_law 393 = .ok (.aload_n 3, 1) := by decide +kernel
theorem dL_law_394 : decode cL_law 394 = .ok (.iconst 0, 1) := by decide +kernel
theorem dL_law_395 : decode cL_law 395 = .ok (.laload, 1) := by decide +kernel
theorem dL_law_396 : decode cL_law 396 = .ok (.iload 6, 2) := by decide +kernel
theorem dL_law_398 : decode cL_law 398 = .ok (.i2l, 1) := by decide +kernel
theorem dL_law_399 : decode cL_law 399 = .ok (.lcmp, 1) := by decide +kernel
theorem dL_law_400 : decode cL_law 400 = .ok (.ifCond .eq 5, 3) := by decide +kernel
theorem dL_law_403 : decode cL_law 403 = .ok (.iconst 0, 1) := by decide +kernel
theorem dL_law_404 : decode cL_law 404 = .ok (.ireturn, 1) := by decide +kernel
theorem dL_law_405 : decode cL_law 405 = .ok (.goto 1392, 3) := by decide +kernel
theorem dL_law_408 : decode cL_law 408 = .ok (.aload_n 1, 1) := by decide +kernel
theorem dL_law_409 : decode cL_law 409 = .ok (.aload_n 0, 1) := by decide +kernel
theorem dL_law_410 : decode cL_law 410 = .ok (.iload 4, 2) := by decide +kernel
theorem dL_law_412 : decode cL_law 412 = .ok (.iconst 1, 1) := by decide +kernel
theorem dL_law_413 : decode cL_law 413 = .ok (.iadd, 1) := by decide +kernel
theorem dL_law_414 : decode cL_law 414 = .ok (.iaload, 1) := by decide +kernel
theorem dL_law_415 : decode cL_law 415 = .ok (.aload_n 3, 1) := by decide +kernel
theorem dL_law_416 : decode cL_law 416 = .ok (.invokestatic 118, 3) := by decide +kernel
theorem dL_law_419 : decode cL_law 419 = .ok (.istore 5, 2) := by decide +kernel
theorem dL_law_421 : decode cL_law 421 = .ok (.aload_n 2, 1) := by decide +kernel
theorem dL_law_422 : decode cL_law 422 = .ok (.aload_n 0, 1) := by decide +kernel
theorem dL_law_423 : decode cL_law 423 = .ok (.iload 4, 2) := by decide +kernel
theorem dL_law_425 : decode cL_law 425 = .ok (.iconst 1, 1) := by decide +kernel
theorem dL_law_426 : decode cL_law 426 = .ok (.iadd, 1) := by decide +kernel
theorem dL_law_427 : decode cL_law 427 = .ok (.iaload, 1) := by decide +kernel
theorem dL_law_428 : decode cL_law 428 = .ok (.invokevirtual 120, 3) := by decide +kernel
theorem dL_law_431 : decode cL_law 431 = .ok (.istore 6, 2) := by decide +kernel
theorem dL_law_433 : decode cL_law 433 = .ok (.aload_n 2, 1) := by decide +kernel
theorem dL_law_434 : decode cL_law 434 = .ok (.invokevirtual 105, 3) := by decide +kernel
theorem dL_law_437 : decode cL_law 437 = .ok (.iload 5, 2) := by decide +kernel
theorem dL_law_439 : decode cL_law 439 = .ok (.if_icmp .eq 5, 3) := by decide +kernel
theorem dL_law_442 : decode cL_law 442 = .ok (.iconst 0, 1) := by decide +kernel
theorem dL_law_443 : decode cL_law 443 = .ok (.ireturn, 1) := by decide +kernel
theorem dL_law_444 : decode cL_law 444 = .ok (.iload 5, 2) := by decide +kernel
theorem dL_law_446 : decode cL_law 446 = .ok (.ifCond .ne 15, 3) := by decide +kernel
theorem dL_law_449 : decode cL_law 449 = .ok (.aload_n 3, 1) := by decide +kernel
theorem dL_law_450 : decode cL_law 450 = .ok (.iconst 0, 1) := by decide +kernel
theorem dL_law_451 : decode cL_law 451 = .ok (.laload, 1) := by decide +kernel
theorem dL_law_452 : decode cL_law 452 = .ok (.iload 6, 2) := by decide +kernel
theorem dL_law_454 : decode cL_law 454 = .ok (.i2l, 1) := by decide +kernel
theorem dL_law_455 : decode cL_law 455 = .ok (.lcmp, 1) := by decide +kernel
theorem dL_law_456 : decode cL_law 456 = .ok (.ifCond .eq 5, 3) := by decide +kernel
theorem dL_law_459 : decode cL_law 459 = .ok (.iconst 0, 1) := by decide +kernel
theorem dL_law_460 : decode cL_law 460 = .ok (.ireturn, 1) := by decide +kernel
theorem dL_law_461 : decode cL_law 461 = .ok (.goto 1336, 3) := by decide +kernel
theorem dL_law_464 : decode cL_law 464 = .ok (.aload_n 1, 1) := by decide +kernel
theorem dL_law_465 : decode cL_law 465 = .ok (.aload_n 0, 1) := by decide +kernel
theorem dL_law_466 : decode cL_law 466 = .ok (.iload 4, 2) := by decide +kernel
theorem dL_law_468 : decode cL_law 468 = .ok (.iconst 1, 1) := by decide +kernel
theorem dL_law_469 : decode cL_law 469 = .ok (.iadd, 1) := by decide +kernel
theorem dL_law_470 : decode cL_law 470 = .ok (.iaload, 1) := by decide +kernel
theorem dL_law_471 : decode cL_law 471 = .ok (.aload_n 3, 1) := by decide +kernel
theorem dL_law_472 : decode cL_law 472 = .ok (.invokestatic 121, 3) := by decide +kernel
theorem dL_law_475 : decode cL_law 475 = .ok (.istore 5, 2) := by decide +kernel
theorem dL_law_477 : decode cL_law 477 = .ok (.aload_n 2, 1) := by decide +kernel
theorem dL_law_478 : decode cL_law 478 = .ok (.aload_n 0, 1) := by decide +kernel
theorem dL_law_479 : decode cL_law 479 = .ok (.iload 4, 2) := by decide +kernel
theorem dL_law_481 : decode cL_law 481 = .ok (.iconst 1, 1) := by decide +kernel
theorem dL_law_482 : decode cL_law 482 = .ok (.iadd, 1) := by decide +kernel
theorem dL_law_483 : decode cL_law 483 = .ok (.iaload, 1) := by decide +kernel
theorem dL_law_484 : decode cL_law 484 = .ok (.invokevirtual 123, 3) := by decide +kernel
theorem dL_law_487 : decode cL_law 487 = .ok (.istore 6, 2) := by decide +kernel
theorem dL_law_489 : decode cL_law 489 = .ok (.aload_n 2, 1) := by decide +kernel
theorem dL_law_490 : decode cL_law 490 = .ok (.invokevirtual 105, 3) := by decide +kernel
theorem dL_law_493 : decode cL_law 493 = .ok (.iload 5, 2) := by decide +kernel
theorem dL_law_495 : decode cL_law 495 = .ok (.if_icmp .eq 5, 3) := by decide +kernel
theorem dL_law_498 : decode cL_law 498 = .ok (.iconst 0, 1) := by decide +kernel
theorem dL_law_499 : decode cL_law 499 = .ok (.ireturn, 1) := by decide +kernel
theorem dL_law_500 : decode cL_law 500 = .ok (.iload 5, 2) := by decide +kernel
theorem dL_law_502 : decode cL_law 502 = .ok (.ifCond .ne 15, 3) := by decide +kernel
theorem dL_law_505 : decode cL_law 505 = .ok (.aload_n 3, 1) := by decide +kernel
theorem dL_law_506 : decode cL_law 506 = .ok (.iconst 0, 1) := by decide +kernel
theorem dL_law_507 : decode cL_law 507 = .ok (.laload, 1) := by decide +kernel
theorem dL_law_508 : decode cL_law 508 = .ok (.iload 6, 2) := by decide +kernel
theorem dL_law_510 : decode cL_law 510 = .ok (.i2l, 1) := by decide +kernel
theorem dL_law_511 : decode cL_law 511 = .ok (.lcmp, 1) := by decide +kernel
theorem dL_law_512 : decode cL_law 512 = .ok (.ifCond .eq 5, 3) := by decide +kernel
theorem dL_law_515 : decode cL_law 515 = .ok (.iconst 0, 1) := by decide +kernel
theorem dL_law_516 : decode cL_law 516 = .ok (.ireturn, 1) := by decide +kernel
theorem dL_law_517 : decode cL_law 517 = .ok (.goto 1280, 3) := by decide +kernel
theorem dL_law_520 : decode cL_law 520 = .ok (.aload_n 1, 1) := by decide +kernel
theorem dL_law_521 : decode cL_law 521 = .ok (.aload_n 3, 1) := by decide +kernel
theorem dL_law_522 : decode cL_law 522 = .ok (.invokestatic 124, 3) := by decide +kernel
theorem dL_law_525 : decode cL_law 525 = .ok (.istore 5, 2) := by decide +kernel
theorem dL_law_527 : decode cL_law 527 = .ok (.aload_n 2, 1) := by decide +kernel
theorem dL_law_528 : decode cL_law 528 = .ok (.invokevirtual 127, 3) := by decide +kernel
theorem dL_law_531 : decode cL_law 531 = .ok (.istore 6, 2) := by decide +kernel
theorem dL_law_533 : decode cL_law 533 = .ok (.aload_n 2, 1) := by decide +kernel
theorem dL_law_534 : decode cL_law 534 = .ok (.invokevirtual 105, 3) := by decide +kernel
theorem dL_law_537 : decode cL_law 537 = .ok (.iload 5, 2) := by decide +kernel
theorem dL_law_539 : decode cL_law 539 = .ok (.if_icmp .eq 5, 3) := by decide +kernel
theorem dL_law_542 : decode cL_law 542 = .ok (.iconst 0, 1) := by decide +kernel
theorem dL_law_543 : decode cL_law 543 = .ok (.ireturn, 1) := by decide +kernel
theorem dL_law_544 : decode cL_law 544 = .ok (.iload 5, 2) := by decide +kernel
theorem dL_law_546 : decode cL_law 546 = .ok (.ifCond .ne 15, 3) := by decide +kernel
theorem dL_law_549 : decode cL_law 549 = .ok (.aload_n 3, 1) := by decide +kernel
theorem dL_law_550 : decode cL_law 550 = .ok (.iconst 0, 1) := by decide +kernel
theorem dL_law_551 : decode cL_law 551 = .ok (.laload, 1) := by decide +kernel
theorem dL_law_552 : decode cL_law 552 = .ok (.iload 6, 2) := by decide +kernel
theorem dL_law_554 : decode cL_law 554 = .ok (.i2l, 1) := by decide +kernel
theorem dL_law_555 : decode cL_law 555 = .ok (.lcmp, 1) := by decide +kernel
theorem dL_law_556 : decode cL_law 556 = .ok (.ifCond .eq 5, 3) := by decide +kernel
theorem dL_law_559 : decode cL_law 559 = .ok (.iconst 0, 1) := by decide +kernel
theorem dL_law_560 : decode cL_law 560 = .ok (.ireturn, 1) := by decide +kernel
theorem dL_law_561 : decode cL_law 561 = .ok (.goto 1236, 3) := by decide +kernel
theorem dL_law_564 : decode cL_law 564 = .ok (.aload_n 1, 1) := by decide +kernel
theorem dL_law_565 : decode cL_law 565 = .ok (.invokevirtual 128, 3) := by decide +kernel
theorem dL_law_568 : decode cL_law 568 = .ok (.aload_n 2, 1) := by decide +kernel
theorem dL_law_569 : decode cL_law 569 = .ok (.invokevirtual 131, 3) := by decide +kernel
theorem dL_law_572 : decode cL_law 572 = .ok (.if_icmp .eq 1225, 3) := by decide +kernel
theorem dL_law_575 : decode cL_law 575 = .ok (.iconst 0, 1) := by decide +kernel
theorem dL_law_576 : decode cL_law 576 = .ok (.ireturn, 1) := by decide +kernel
theorem dL_law_577 : decode cL_law 577 = .ok (.aload_n 1, 1) := by decide +kernel
theorem dL_law_578 : decode cL_law 578 = .ok (.aload_n 3, 1) := by decide +kernel
theorem dL_law_579 : decode cL_law 579 = .ok (.invokestatic 132, 3) := by decide +kernel
theorem dL_law_582 : decode cL_law 582 = .ok (.istore 5, 2) := by decide +kernel
theorem dL_law_584 : decode cL_law 584 = .ok (.aload_n 2, 1) := by decide +kernel
theorem dL_law_585 : decode cL_law 585 = .ok (.invokevirtual 134, 3) := by decide +kernel
theorem dL_law_588 : decode cL_law 588 = .ok (.istore 6, 2) := by decide +kernel
theorem dL_law_590 : decode cL_law 590 = .ok (.aload_n 2, 1) := by decide +kernel
theorem dL_law_591 : decode cL_law 591 = .ok (.invokevirtual 105, 3) := by decide +kernel
theorem dL_law_594 : decode cL_law 594 = .ok (.iload 5, 2) := by decide +kernel
theorem dL_law_596 : decode cL_law 596 = .ok (.if_icmp .eq 5, 3) := by decide +kernel
theorem dL_law_599 : decode cL_law 599 = .ok (.iconst 0, 1) := by decide +kernel
theorem dL_law_600 : decode cL_law 600 = .ok (.ireturn, 1) := by decide +kernel
theorem dL_law_601 : decode cL_law 601 = .ok (.iload 5, 2) := by decide +kernel
theorem dL_law_603 : decode cL_law 603 = .ok (.ifCond .ne 15, 3) := by decide +kernel
theorem dL_law_606 : decode cL_law 606 = .ok (.aload_n 3, 1) := by decide +kernel
theorem dL_law_607 : decode cL_law 607 = .ok (.iconst 0, 1) := by decide +kernel
theorem dL_law_608 : decode cL_law 608 = .ok (.laload, 1) := by decide +kernel
theorem dL_law_609 : decode cL_law 609 = .ok (.iload 6, 2) := by decide +kernel
theorem dL_law_611 : decode cL_law 611 = .ok (.i2l, 1) := by decide +kernel
theorem dL_law_612 : decode cL_law 612 = .ok (.lcmp, 1) := by decide +kernel
theorem dL_law_613 : decode cL_law 613 = .ok (.ifCond .eq 5, 3) := by decide +kernel
theorem dL_law_616 : decode cL_law 616 = .ok (.iconst 0, 1) := by decide +kernel
theorem dL_law_617 : decode cL_law 617 = .ok (.ireturn, 1) := by decide +kernel
theorem dL_law_618 : decode cL_law 618 = .ok (.goto 1179, 3) := by decide +kernel
theorem dL_law_621 : decode cL_law 621 = .ok (.aload_n 1, 1) := by decide +kernel
theorem dL_law_622 : decode cL_law 622 = .ok (.aload_n 0, 1) := by decide +kernel
theorem dL_law_623 : decode cL_law 623 = .ok (.iload 4, 2) := by decide +kernel
theorem dL_law_625 : decode cL_law 625 = .ok (.iconst 1, 1) := by decide +kernel
theorem dL_law_626 : decode cL_law 626 = .ok (.iadd, 1) := by decide +kernel
theorem dL_law_627 : decode cL_law 627 = .ok (.iaload, 1) := by decide +kernel
theorem dL_law_628 : decode cL_law 628 = .ok (.aload_n 0, 1) := by decide +kernel
theorem dL_law_629 : decode cL_law 629 = .ok (.iload 4, 2) := by decide +kernel
theorem dL_law_631 : decode cL_law 631 = .ok (.iconst 2, 1) := by decide +kernel
theorem dL_law_632 : decode cL_law 632 = .ok (.iadd, 1) := by decide +kernel
theorem dL_law_633 : decode cL_law 633 = .ok (.iaload, 1) := by decide +kernel
theorem dL_law_634 : decode cL_law 634 = .ok (.aload_n 3, 1) := by decide +kernel
theorem dL_law_635 : decode cL_law 635 = .ok (.invokestatic 135, 3) := by decide +kernel
theorem dL_law_638 : decode cL_law 638 = .ok (.istore 5, 2) := by decide +kernel
theorem dL_law_640 : decode cL_law 640 = .ok (.aload_n 2, 1) := by decide +kernel
theorem dL_law_641 : decode cL_law 641 = .ok (.aload_n 0, 1) := by decide +kernel
theorem dL_law_642 : decode cL_law 642 = .ok (.iload 4, 2) := by decide +kernel
theorem dL_law_644 : decode cL_law 644 = .ok (.iconst 1, 1) := by decide +kernel
theorem dL_law_645 : decode cL_law 645 = .ok (.iadd, 1) := by decide +kernel
theorem dL_law_646 : decode cL_law 646 = .ok (.iaload, 1) := by decide +kernel
theorem dL_law_647 : decode cL_law 647 = .ok (.aload_n 0, 1) := by decide +kernel
theorem dL_law_648 : decode cL_law 648 = .ok (.iload 4, 2) := by decide +kernel
theorem dL_law_650 : decode cL_law 650 = .ok (.iconst 2, 1) := by decide +kernel
theorem dL_law_651 : decode cL_law 651 = .ok (.iadd, 1) := by decide +kernel
theorem dL_law_652 : decode cL_law 652 = .ok (.iaload, 1) := by decide +kernel
theorem dL_law_653 : decode cL_law 653 = .ok (.invokevirtual 138, 3) := by decide +kernel
theorem dL_law_656 : decode cL_law 656 = .ok (.istore 6, 2) := by decide +kernel
theorem dL_law_658 : decode cL_law 658 = .ok (.aload_n 2, 1) := by decide +kernel
theorem dL_law_659 : decode cL_law 659 = .ok (.invokevirtual 105, 3) := by decide +kernel
theorem dL_law_662 : decode cL_law 662 = .ok (.iload 5, 2) := by decide +kernel
theorem dL_law_664 : decode cL_law 664 = .ok (.if_icmp .eq 5, 3) := by decide +kernel
theorem dL_law_667 : decode cL_law 667 = .ok (.iconst 0, 1) := by decide +kernel
theorem dL_law_668 : decode cL_law 668 = .ok (.ireturn, 1) := by decide +kernel
theorem dL_law_669 : decode cL_law 669 = .ok (.iload 5, 2) := by decide +kernel
theorem dL_law_671 : decode cL_law 671 = .ok (.ifCond .ne 15, 3) := by decide +kernel
theorem dL_law_674 : decode cL_law 674 = .ok (.aload_n 3, 1) := by decide +kernel
theorem dL_law_675 : decode cL_law 675 = .ok (.iconst 0, 1) := by decide +kernel
theorem dL_law_676 : decode cL_law 676 = .ok (.laload, 1) := by decide +kernel
theorem dL_law_677 : decode cL_law 677 = .ok (.iload 6, 2) := by decide +kernel
theorem dL_law_679 : decode cL_law 679 = .ok (.i2l, 1) := by decide +kernel
theorem dL_law_680 : decode cL_law 680 = .ok (.lcmp, 1) := by decide +kernel
theorem dL_law_681 : decode cL_law 681 = .ok (.ifCond .eq 5, 3) := by decide +kernel
theorem dL_law_684 : decode cL_law 684 = .ok (.iconst 0, 1) := by decide +kernel
end
section
theorem dL_law_685 : decode cL_law 685 = .ok (.ireturn, 1) := by decide +kernel
theorem dL_law_686 : decode cL_law 686 = .ok (.goto 1111, 3) := by decide +kernel
theorem dL_law_689 : decode cL_law 689 = .ok (.aload_n 1, 1) := by decide +kernel
theorem dL_law_690 : decode cL_law 690 = .ok (.invokevirtual 139, 3) := by decide +kernel
theorem dL_law_693 : decode cL_law 693 = .ok (.aload_n 2, 1) := by decide +kernel
theorem dL_law_694 : decode cL_law 694 = .ok (.invokevirtual 142, 3) := by decide +kernel
theorem dL_law_697 : decode cL_law 697 = .ok (.if_icmp .eq 1100, 3) := by decide +kernel
theorem dL_law_700 : decode cL_law 700 = .ok (.iconst 0, 1) := by decide +kernel
theorem dL_law_701 : decode cL_law 701 = .ok (.ireturn, 1) := by decide +kernel
theorem dL_law_702 : decode cL_law 702 = .ok (.aload_n 1, 1) := by decide +kernel
theorem dL_law_703 : decode cL_law 703 = .ok (.aload_n 0, 1) := by decide +kernel
theorem dL_law_704 : decode cL_law 704 = .ok (.iload 4, 2) := by decide +kernel
theorem dL_law_706 : decode cL_law 706 = .ok (.iconst 1, 1) := by decide +kernel
theorem dL_law_707 : decode cL_law 707 = .ok (.iadd, 1) := by decide +kernel
theorem dL_law_708 : decode cL_law 708 = .ok (.iaload, 1) := by decide +kernel
theorem dL_law_709 : decode cL_law 709 = .ok (.aload_n 3, 1) := by decide +kernel
theorem dL_law_710 : decode cL_law 710 = .ok (.invokestatic 143, 3) := by decide +kernel
theorem dL_law_713 : decode cL_law 713 = .ok (.istore 5, 2) := by decide +kernel
theorem dL_law_715 : decode cL_law 715 = .ok (.aload_n 2, 1) := by decide +kernel
theorem dL_law_716 : decode cL_law 716 = .ok (.aload_n 0, 1) := by decide +kernel
theorem dL_law_717 : decode cL_law 717 = .ok (.iload 4, 2) := by decide +kernel
theorem dL_law_719 : decode cL_law 719 = .ok (.iconst 1, 1) := by decide +kernel
theorem dL_law_720 : decode cL_law 720 = .ok (.iadd, 1) := by decide +kernel
theorem dL_law_721 : decode cL_law 721 = .ok (.iaload, 1) := by decide +kernel
theorem dL_law_722 : decode cL_law 722 = .ok (.invokevirtual 145, 3) := by decide +kernel
theorem dL_law_725 : decode cL_law 725 = .ok (.istore 6, 2) := by decide +kernel
theorem dL_law_727 : decode cL_law 727 = .ok (.aload_n 2, 1) := by decide +kernel
theorem dL_law_728 : decode cL_law 728 = .ok (.invokevirtual 105, 3) := by decide +kernel
theorem dL_law_731 : decode cL_law 731 = .ok (.iload 5, 2) := by decide +kernel
theorem dL_law_733 : decode cL_law 733 = .ok (.if_icmp .eq 5, 3) := by decide +kernel
theorem dL_law_736 : decode cL_law 736 = .ok (.iconst 0, 1) := by decide +kernel
theorem dL_law_737 : decode cL_law 737 = .ok (.ireturn, 1) := by decide +kernel
theorem dL_law_738 : decode cL_law 738 = .ok (.iload 5, 2) := by decide +kernel
theorem dL_law_740 : decode cL_law 740 = .ok (.ifCond .ne 15, 3) := by decide +kernel
theorem dL_law_743 : decode cL_law 743 = .ok (.aload_n 3, 1) := by decide +kernel
theorem dL_law_744 : decode cL_law 744 = .ok (.iconst 0, 1) := by decide +kernel
theorem dL_law_745 : decode cL_law 745 = .ok (.laload, 1) := by decide +kernel
theorem dL_law_746 : decode cL_law 746 = .ok (.iload 6, 2) := by decide +kernel
theorem dL_law_748 : decode cL_law 748 = .ok (.i2l, 1) := by decide +kernel
theorem dL_law_749 : decode cL_law 749 = .ok (.lcmp, 1) := by decide +kernel
theorem dL_law_750 : decode cL_law 750 = .ok (.ifCond .eq 5, 3) := by decide +kernel
theorem dL_law_753 : decode cL_law 753 = .ok (.iconst 0, 1) := by decide +kernel
theorem dL_law_754 : decode cL_law 754 = .ok (.ireturn, 1) := by decide +kernel
theorem dL_law_755 : decode cL_law 755 = .ok (.goto 1042, 3) := by decide +kernel
theorem dL_law_758 : decode cL_law 758 = .ok (.aload_n 1, 1) := by decide +kernel
theorem dL_law_759 : decode cL_law 759 = .ok (.aload_n 0, 1) := by decide +kernel
theorem dL_law_760 : decode cL_law 760 = .ok (.iload 4, 2) := by decide +kernel
theorem dL_law_762 : decode cL_law 762 = .ok (.iconst 1, 1) := by decide +kernel
theorem dL_law_763 : decode cL_law 763 = .ok (.iadd, 1) := by decide +kernel
theorem dL_law_764 : decode cL_law 764 = .ok (.iaload, 1) := by decide +kernel
theorem dL_law_765 : decode cL_law 765 = .ok (.aload_n 0, 1) := by decide +kernel
theorem dL_law_766 : decode cL_law 766 = .ok (.iload 4, 2) := by decide +kernel
theorem dL_law_768 : decode cL_law 768 = .ok (.iconst 2, 1) := by decide +kernel
theorem dL_law_769 : decode cL_law 769 = .ok (.iadd, 1) := by decide +kernel
theorem dL_law_770 : decode cL_law 770 = .ok (.iaload, 1) := by decide +kernel
theorem dL_law_771 : decode cL_law 771 = .ok (.aload_n 3, 1) := by decide +kernel
theorem dL_law_772 : decode cL_law 772 = .ok (.invokestatic 146, 3) := by decide +kernel
theorem dL_law_775 : decode cL_law 775 = .ok (.istore 5, 2) := by decide +kernel
theorem dL_law_777 : decode cL_law 777 = .ok (.aload_n 2, 1) := by decide +kernel
theorem dL_law_778 : decode cL_law 778 = .ok (.aload_n 0, 1) := by decide +kernel
theorem dL_law_779 : decode cL_law 779 = .ok (.iload 4, 2) := by decide +kernel
theorem dL_law_781 : decode cL_law 781 = .ok (.iconst 1, 1) := by decide +kernel
theorem dL_law_782 : decode cL_law 782 = .ok (.iadd, 1) := by decide +kernel
theorem dL_law_783 : decode cL_law 783 = .ok (.iaload, 1) := by decide +kernel
theorem dL_law_784 : decode cL_law 784 = .ok (.aload_n 0, 1) := by decide +kernel
theorem dL_law_785 : decode cL_law 785 = .ok (.iload 4, 2) := by decide +kernel
theorem dL_law_787 : decode cL_law 787 = .ok (.iconst 2, 1) := by decide +kernel
theorem dL_law_788 : decode cL_law 788 = .ok (.iadd, 1) := by decide +kernel
theorem dL_law_789 : decode cL_law 789 = .ok (.iaload, 1) := by decide +kernel
theorem dL_law_790 : decode cL_law 790 = .ok (.invokevirtual 148, 3) := by decide +kernel
theorem dL_law_793 : decode cL_law 793 = .ok (.lstore 6, 2) := by decide +kernel
theorem dL_law_795 : decode cL_law 795 = .ok (.aload_n 2, 1) := by decide +kernel
theorem dL_law_796 : decode cL_law 796 = .ok (.invokevirtual 105, 3) := by decide +kernel
theorem dL_law_799 : decode cL_law 799 = .ok (.iload 5, 2) := by decide +kernel
theorem dL_law_801 : decode cL_law 801 = .ok (.if_icmp .eq 5, 3) := by decide +kernel
theorem dL_law_804 : decode cL_law 804 = .ok (.iconst 0, 1) := by decide +kernel
theorem dL_law_805 : decode cL_law 805 = .ok (.ireturn, 1) := by decide +kernel
theorem dL_law_806 : decode cL_law 806 = .ok (.iload 5, 2) := by decide +kernel
theorem dL_law_808 : decode cL_law 808 = .ok (.ifCond .ne 14, 3) := by decide +kernel
theorem dL_law_811 : decode cL_law 811 = .ok (.aload_n 3, 1) := by decide +kernel
theorem dL_law_812 : decode cL_law 812 = .ok (.iconst 0, 1) := by decide +kernel
theorem dL_law_813 : decode cL_law 813 = .ok (.laload, 1) := by decide +kernel
theorem dL_law_814 : decode cL_law 814 = .ok (.lload 6, 2) := by decide +kernel
theorem dL_law_816 : decode cL_law 816 = .ok (.lcmp, 1) := by decide +kernel
theorem dL_law_817 : decode cL_law 817 = .ok (.ifCond .eq 5, 3) := by decide +kernel
theorem dL_law_820 : decode cL_law 820 = .ok (.iconst 0, 1) := by decide +kernel
theorem dL_law_821 : decode cL_law 821 = .ok (.ireturn, 1) := by decide +kernel
theorem dL_law_822 : decode cL_law 822 = .ok (.goto 975, 3) := by decide +kernel
theorem dL_law_825 : decode cL_law 825 = .ok (.aload_n 1, 1) := by decide +kernel
theorem dL_law_826 : decode cL_law 826 = .ok (.aload_n 0, 1) := by decide +kernel
theorem dL_law_827 : decode cL_law 827 = .ok (.iload 4, 2) := by decide +kernel
theorem dL_law_829 : decode cL_law 829 = .ok (.iconst 1, 1) := by decide +kernel
theorem dL_law_830 : decode cL_law 830 = .ok (.iadd, 1) := by decide +kernel
theorem dL_law_831 : decode cL_law 831 = .ok (.iaload, 1) := by decide +kernel
theorem dL_law_832 : decode cL_law 832 = .ok (.aload_n 0, 1) := by decide +kernel
theorem dL_law_833 : decode cL_law 833 = .ok (.iload 4, 2) := by decide +kernel
theorem dL_law_835 : decode cL_law 835 = .ok (.iconst 2, 1) := by decide +kernel
theorem dL_law_836 : decode cL_law 836 = .ok (.iadd, 1) := by decide +kernel
theorem dL_law_837 : decode cL_law 837 = .ok (.iaload, 1) := by decide +kernel
theorem dL_law_838 : decode cL_law 838 = .ok (.aload_n 3, 1) := by decide +kernel
theorem dL_law_839 : decode cL_law 839 = .ok (.invokestatic 149, 3) := by decide +kernel
theorem dL_law_842 : decode cL_law 842 = .ok (.istore 5, 2) := by decide +kernel
theorem dL_law_844 : decode cL_law 844 = .ok (.aload_n 2, 1) := by decide +kernel
theorem dL_law_845 : decode cL_law 845 = .ok (.aload_n 0, 1) := by decide +kernel
theorem dL_law_846 : decode cL_law 846 = .ok (.iload 4, 2) := by decide +kernel
theorem dL_law_848 : decode cL_law 848 = .ok (.iconst 1, 1) := by decide +kernel
theorem dL_law_849 : decode cL_law 849 = .ok (.iadd, 1) := by decide +kernel
theorem dL_law_850 : decode cL_law 850 = .ok (.iaload, 1) := by decide +kernel
theorem dL_law_851 : decode cL_law 851 = .ok (.aload_n 0, 1) := by decide +kernel
theorem dL_law_852 : decode cL_law 852 = .ok (.iload 4, 2) := by decide +kernel
theorem dL_law_854 : decode cL_law 854 = .ok (.iconst 2, 1) := by decide +kernel
theorem dL_law_855 : decode cL_law 855 = .ok (.iadd, 1) := by decide +kernel
theorem dL_law_856 : decode cL_law 856 = .ok (.iaload, 1) := by decide +kernel
theorem dL_law_857 : decode cL_law 857 = .ok (.invokevirtual 151, 3) := by decide +kernel
theorem dL_law_860 : decode cL_law 860 = .ok (.istore 6, 2) := by decide +kernel
theorem dL_law_862 : decode cL_law 862 = .ok (.aload_n 2, 1) := by decide +kernel
theorem dL_law_863 : decode cL_law 863 = .ok (.invokevirtual 105, 3) := by decide +kernel
theorem dL_law_866 : decode cL_law 866 = .ok (.iload 5, 2) := by decide +kernel
theorem dL_law_868 : decode cL_law 868 = .ok (.if_icmp .eq 5, 3) := by decide +kernel
theorem dL_law_871 : decode cL_law 871 = .ok (.iconst 0, 1) := by decide +kernel
theorem dL_law_872 : decode cL_law 872 = .ok (.ireturn, 1) := by decide +kernel
theorem dL_law_873 : decode cL_law 873 = .ok (.iload 5, 2) := by decide +kernel
theorem dL_law_875 : decode cL_law 875 = .ok (.ifCond .ne 15, 3) := by decide +kernel
theorem dL_law_878 : decode cL_law 878 = .ok (.aload_n 3, 1) := by decide +kernel
theorem dL_law_879 : decode cL_law 879 = .ok (.iconst 0, 1) := by decide +kernel
theorem dL_law_880 : decode cL_law 880 = .ok (.laload, 1) := by decide +kernel
theorem dL_law_881 : decode cL_law 881 = .ok (.iload 6, 2) := by decide +kernel
theorem dL_law_883 : decode cL_law 883 = .ok (.i2l, 1) := by decide +kernel
theorem dL_law_884 : decode cL_law 884 = .ok (.lcmp, 1) := by decide +kernel
theorem dL_law_885 : decode cL_law 885 = .ok (.ifCond .eq 5, 3) := by decide +kernel
theorem dL_law_888 : decode cL_law 888 = .ok (.iconst 0, 1) := by decide +kernel
theorem dL_law_889 : decode cL_law 889 = .ok (.ireturn, 1) := by decide +kernel
theorem dL_law_890 : decode cL_law 890 = .ok (.goto 907, 3) := by decide +kernel
theorem dL_law_893 : decode cL_law 893 = .ok (.aload_n 1, 1) := by decide +kernel
theorem dL_law_894 : decode cL_law 894 = .ok (.aload_n 0, 1) := by decide +kernel
theorem dL_law_895 : decode cL_law 895 = .ok (.iload 4, 2) := by decide +kernel
theorem dL_law_897 : decode cL_law 897 = .ok (.iconst 1, 1) := by decide +kernel
theorem dL_law_898 : decode cL_law 898 = .ok (.iadd, 1) := by decide +kernel
theorem dL_law_899 : decode cL_law 899 = .ok (.iaload, 1) := by decide +kernel
theorem dL_law_900 : decode cL_law 900 = .ok (.aload_n 0, 1) := by decide +kernel
theorem dL_law_901 : decode cL_law 901 = .ok (.iload 4, 2) := by decide +kernel
theorem dL_law_903 : decode cL_law 903 = .ok (.iconst 2, 1) := by decide +kernel
theorem dL_law_904 : decode cL_law 904 = .ok (.iadd, 1) := by decide +kernel
theorem dL_law_905 : decode cL_law 905 = .ok (.iaload, 1) := by decide +kernel
theorem dL_law_906 : decode cL_law 906 = .ok (.aload_n 0, 1) := by decide +kernel
theorem dL_law_907 : decode cL_law 907 = .ok (.iload 4, 2) := by decide +kernel
theorem dL_law_909 : decode cL_law 909 = .ok (.iconst 3, 1) := by decide +kernel
theorem dL_law_910 : decode cL_law 910 = .ok (.iadd, 1) := by decide +kernel
theorem dL_law_911 : decode cL_law 911 = .ok (.iaload, 1) := by decide +kernel
theorem dL_law_912 : decode cL_law 912 = .ok (.aload_n 3, 1) := by decide +kernel
theorem dL_law_913 : decode cL_law 913 = .ok (.invokestatic 152, 3) := by decide +kernel
theorem dL_law_916 : decode cL_law 916 = .ok (.istore 5, 2) := by decide +kernel
theorem dL_law_918 : decode cL_law 918 = .ok (.aload_n 2, 1) := by decide +kernel
theorem dL_law_919 : decode cL_law 919 = .ok (.aload_n 0, 1) := by decide +kernel
theorem dL_law_920 : decode cL_law 920 = .ok (.iload 4, 2) := by decide +kernel
theorem dL_law_922 : decode cL_law 922 = .ok (.iconst 1, 1) := by decide +kernel
theorem dL_law_923 : decode cL_law 923 = .ok (.iadd, 1) := by decide +kernel
theorem dL_law_924 : decode cL_law 924 = .ok (.iaload, 1) := by decide +kernel
theorem dL_law_925 : decode cL_law 925 = .ok (.aload_n 0, 1) := by decide +kernel
theorem dL_law_926 : decode cL_law 926 = .ok (.iload 4, 2) := by decide +kernel
theorem dL_law_928 : decode cL_law 928 = .ok (.iconst 2, 1) := by decide +kernel
theorem dL_law_929 : decode cL_law 929 = .ok (.iadd, 1) := by decide +kernel
theorem dL_law_930 : decode cL_law 930 = .ok (.iaload, 1) := by decide +kernel
theorem dL_law_931 : decode cL_law 931 = .ok (.aload_n 0, 1) := by decide +kernel
theorem dL_law_932 : decode cL_law 932 = .ok (.iload 4, 2) := by decide +kernel
theorem dL_law_934 : decode cL_law 934 = .ok (.iconst 3, 1) := by decide +kernel
theorem dL_law_935 : decode cL_law 935 = .ok (.iadd, 1) := by decide +kernel
theorem dL_law_936 : decode cL_law 936 = .ok (.iaload, 1) := by decide +kernel
theorem dL_law_937 : decode cL_law 937 = .ok (.invokevirtual 154, 3) := by decide +kernel
theorem dL_law_940 : decode cL_law 940 = .ok (.istore 6, 2) := by decide +kernel
theorem dL_law_942 : decode cL_law 942 = .ok (.aload_n 2, 1) := by decide +kernel
theorem dL_law_943 : decode cL_law 943 = .ok (.invokevirtual 105, 3) := by decide +kernel
theorem dL_law_946 : decode cL_law 946 = .ok (.iload 5, 2) := by decide +kernel
theorem dL_law_948 : decode cL_law 948 = .ok (.if_icmp .eq 5, 3) := by decide +kernel
theorem dL_law_951 : decode cL_law 951 = .ok (.iconst 0, 1) := by decide +kernel
theorem dL_law_952 : decode cL_law 952 = .ok (.ireturn, 1) := by decide +kernel
theorem dL_law_953 : decode cL_law 953 = .ok (.iload 5, 2) := by decide +kernel
theorem dL_law_955 : decode cL_law 955 = .ok (.ifCond .ne 15, 3) := by decide +kernel
theorem dL_law_958 : decode cL_law 958 = .ok (.aload_n 3, 1) := by decide +kernel
theorem dL_law_959 : decode cL_law 959 = .ok (.iconst 0, 1) := by decide +kernel
theorem dL_law_960 : decode cL_law 960 = .ok (.laload, 1) := by decide +kernel
theorem dL_law_961 : decode cL_law 961 = .ok (.iload 6, 2) := by decide +kernel
theorem dL_law_963 : decode cL_law 963 = .ok (.i2l, 1) := by decide +kernel
theorem dL_law_964 : decode cL_law 964 = .ok (.lcmp, 1) := by decide +kernel
theorem dL_law_965 : decode cL_law 965 = .ok (.ifCond .eq 5, 3) := by decide +kernel
theorem dL_law_968 : decode cL_law 968 = .ok (.iconst 0, 1) := by decide +kernel
theorem dL_law_969 : decode cL_law 969 = .ok (.ireturn, 1) := by decide +kernel
theorem dL_law_970 : decode cL_law 970 = .ok (.goto 827, 3) := by decide +kernel
theorem dL_law_973 : decode cL_law 973 = .ok (.aload_n 1, 1) := by decide +kernel
theorem dL_law_974 : decode cL_law 974 = .ok (.aload_n 0, 1) := by decide +kernel
theorem dL_law_975 : decode cL_law 975 = .ok (.iload 4, 2) := by decide +kernel
theorem dL_law_977 : decode cL_law 977 = .ok (.iconst 1, 1) := by decide +kernel
theorem dL_law_978 : decode cL_law 978 = .ok (.iadd, 1) := by decide +kernel
theorem dL_law_979 : decode cL_law 979 = .ok (.iaload, 1) := by decide +kernel
theorem dL_law_980 : decode cL_law 980 = .ok (.aload_n 0, 1) := by decide +kernel
theorem dL_law_981 : decode cL_law 981 = .ok (.iload 4, 2) := by decide +kernel
theorem dL_law_983 : decode cL_law 983 = .ok (.iconst 2, 1) := by decide +kernel
theorem dL_law_984 : decode cL_law 984 = .ok (.iadd, 1) := by decide +kernel
theorem dL_law_985 : decode cL_law 985 = .ok (.iaload, 1) := by decide +kernel
theorem dL_law_986 : decode cL_law 986 = .ok (.aload_n 3, 1) := by decide +kernel
theorem dL_law_987 : decode cL_law 987 = .ok (.invokestatic 155, 3) := by decide +kernel
theorem dL_law_990 : decode cL_law 990 = .ok (.istore 5, 2) := by decide +kernel
theorem dL_law_992 : decode cL_law 992 = .ok (.aload_n 2, 1) := by decide +kernel
theorem dL_law_993 : decode cL_law 993 = .ok (.aload_n 0, 1) := by decide +kernel
theorem dL_law_994 : decode cL_law 994 = .ok (.iload 4, 2) := by decide +kernel
theorem dL_law_996 : decode cL_law 996 = .ok (.iconst 1, 1) := by decide +kernel
theorem dL_law_997 : decode cL_law 997 = .ok (.iadd, 1) := by decide +kernel
theorem dL_law_998 : decode cL_law 998 = .ok (.iaload, 1) := by decide +kernel
theorem dL_law_999 : decode cL_law 999 = .ok (.aload_n 0, 1) := by decide +kernel
theorem dL_law_1000 : decode cL_law 1000 = .ok (.iload 4, 2) := by decide +kernel
theorem dL_law_1002 : decode cL_law 1002 = .ok (.iconst 2, 1) := by decide +kernel
theorem dL_law_1003 : decode cL_law 1003 = .ok (.iadd, 1) := by decide +kernel
theorem dL_law_1004 : decode cL_law 1004 = .ok (.iaload, 1) := by decide +kernel
theorem dL_law_1005 : decode cL_law 1005 = .ok (.invokevirtual 157, 3) := by decide +kernel
theorem dL_law_1008 : decode cL_law 1008 = .ok (.istore 6, 2) := by decide +kernel
theorem dL_law_1010 : decode cL_law 1010 = .ok (.aload_n 2, 1) := by decide +kernel
theorem dL_law_1011 : decode cL_law 1011 = .ok (.invokevirtual 105, 3) := by decide +kernel
theorem dL_law_1014 : decode cL_law 1014 = .ok (.iload 5, 2) := by decide +kernel
theorem dL_law_1016 : decode cL_law 1016 = .ok (.if_icmp .eq 5, 3) := by decide +kernel
theorem dL_law_1019 : decode cL_law 1019 = .ok (.iconst 0, 1) := by decide +kernel
theorem dL_law_1020 : decode cL_law 1020 = .ok (.ireturn, 1) := by decide +kernel
theorem dL_law_1021 : decode cL_law 1021 = .ok (.iload 5, 2) := by decide +kernel
theorem dL_law_1023 : decode cL_law 1023 = .ok (.ifCond .ne 15, 3) := by decide +kernel
theorem dL_law_1026 : decode cL_law 1026 = .ok (.aload_n 3, 1) := by decide +kernel
theorem dL_law_1027 : decode cL_law 1027 = .ok (.iconst 0, 1) := by decide +kernel
theorem dL_law_1028 : decode cL_law 1028 = .ok (.laload, 1) := by decide +kernel
theorem dL_law_1029 : decode cL_law 1029 = .ok (.iload 6, 2) := by decide +kernel
theorem dL_law_1031 : decode cL_law 1031 = .ok (.i2l, 1) := by decide +kernel
theorem dL_law_1032 : decode cL_law 1032 = .ok (.lcmp, 1) := by decide +kernel
theorem dL_law_1033 : decode cL_law 1033 = .ok (.ifCond .eq 5, 3) := by decide +kernel
theorem dL_law_1036 : decode cL_law 1036 = .ok (.iconst 0, 1) := by decide +kernel
theorem dL_law_1037 : decode cL_law 1037 = .ok (.ireturn, 1) := by decide +kernel
theorem dL_law_1038 : decode cL_law 1038 = .ok (.goto 759, 3) := by decide +kernel
theorem dL_law_1041 : decode cL_law 1041 = .ok (.aload_n 1, 1) := by decide +kernel
theorem dL_law_1042 : decode cL_law 1042 = .ok (.aload_n 0, 1) := by decide +kernel
theorem dL_law_1043 : decode cL_law 1043 = .ok (.iload 4, 2) := by decide +kernel
theorem dL_law_1045 : decode cL_law 1045 = .ok (.iconst 1, 1) := by decide +kernel
theorem dL_law_1046 : decode cL_law 1046 = .ok (.iadd, 1) := by decide +kernel
theorem dL_law_1047 : decode cL_law 1047 = .ok (.iaload, 1) := by decide +kernel
theorem dL_law_1048 : decode cL_law 1048 = .ok (.aload_n 0, 1) := by decide +kernel
theorem dL_law_1049 : decode cL_law 1049 = .ok (.iload 4, 2) := by decide +kernel
theorem dL_law_1051 : decode cL_law 1051 = .ok (.iconst 2, 1) := by decide +kernel
theorem dL_law_1052 : decode cL_law 1052 = .ok (.iadd, 1) := by decide +kernel
theorem dL_law_1053 : decode cL_law 1053 = .ok (.iaload, 1) := by decide +kernel
theorem dL_law_1054 : decode cL_law 1054 = .ok (.aload_n 0, 1) := by decide +kernel
theorem dL_law_1055 : decode cL_law 1055 = .ok (.iload 4, 2) := by decide +kernel
theorem dL_law_1057 : decode cL_law 1057 = .ok (.iconst 3, 1) := by decide +kernel
theorem dL_law_1058 : decode cL_law 1058 = .ok (.iadd, 1) := by decide +kernel
theorem dL_law_1059 : decode cL_law 1059 = .ok (.iaload, 1) := by decide +kernel
theorem dL_law_1060 : decode cL_law 1060 = .ok (.aload_n 3, 1) := by decide +kernel
theorem dL_law_1061 : decode cL_law 1061 = .ok (.invokestatic 158, 3) := by decide +kernel
theorem dL_law_1064 : decode cL_law 1064 = .ok (.istore 5, 2) := by decide +kernel
theorem dL_law_1066 : decode cL_law 1066 = .ok (.aload_n 2, 1) := by decide +kernel
theorem dL_law_1067 : decode cL_law 1067 = .ok (.aload_n 0, 1) := by decide +kernel
theorem dL_law_1068 : decode cL_law 1068 = .ok (.iload 4, 2) := by decide +kernel
theorem dL_law_1070 : decode cL_law 1070 = .ok (.iconst 1, 1) := by decide +kernel
theorem dL_law_1071 : decode cL_law 1071 = .ok (.iadd, 1) := by decide +kernel
theorem dL_law_1072 : decode cL_law 1072 = .ok (.iaload, 1) := by decide +kernel
theorem dL_law_1073 : decode cL_law 1073 = .ok (.aload_n 0, 1) := by decide +kernel
theorem dL_law_1074 : decode cL_law 1074 = .ok (.iload 4, 2) := by decide +kernel
theorem dL_law_1076 : decode cL_law 1076 = .ok (.iconst 2, 1) := by decide +kernel
theorem dL_law_1077 : decode cL_law 1077 = .ok (.iadd, 1) := by decide +kernel
theorem dL_law_1078 : decode cL_law 1078 = .ok (.iaload, 1) := by decide +kernel
theorem dL_law_1079 : decode cL_law 1079 = .ok (.aload_n 0, 1) := by decide +kernel
theorem dL_law_1080 : decode cL_law 1080 = .ok (.iload 4, 2) := by decide +kernel
theorem dL_law_1082 : decode cL_law 1082 = .ok (.iconst 3, 1) := by decide +kernel
theorem dL_law_1083 : decode cL_law 1083 = .ok (.iadd, 1) := by decide +kernel
theorem dL_law_1084 : decode cL_law 1084 = .ok (.iaload, 1) := by decide +kernel
theorem dL_law_1085 : decode cL_law 1085 = .ok (.invokevirtual 160, 3) := by decide +kernel
theorem dL_law_1088 : decode cL_law 1088 = .ok (.istore 6, 2) := by decide +kernel
theorem dL_law_1090 : decode cL_law 1090 = .ok (.aload_n 2, 1) := by decide +kernel
theorem dL_law_1091 : decode cL_law 1091 = .ok (.invokevirtual 105, 3) := by decide +kernel
theorem dL_law_1094 : decode cL_law 1094 = .ok (.iload 5, 2) := by decide +kernel
theorem dL_law_1096 : decode cL_law 1096 = .ok (.if_icmp .eq 5, 3) := by decide +kernel
theorem dL_law_1099 : decode cL_law 1099 = .ok (.iconst 0, 1) := by decide +kernel
theorem dL_law_1100 : decode cL_law 1100 = .ok (.ireturn, 1) := by decide +kernel
theorem dL_law_1101 : decode cL_law 1101 = .ok (.iload 5, 2) := by decide +kernel
theorem dL_law_1103 : decode cL_law 1103 = .ok (.ifCond .ne 15, 3) := by decide +kernel
theorem dL_law_1106 : decode cL_law 1106 = .ok (.aload_n 3, 1) := by decide +kernel
theorem dL_law_1107 : decode cL_law 1107 = .ok (.iconst 0, 1) := by decide +kernel
theorem dL_law_1108 : decode cL_law 1108 = .ok (.laload, 1) := by decide +kernel
theorem dL_law_1109 : decode cL_law 1109 = .ok (.iload 6, 2) := by decide +kernel
theorem dL_law_1111 : decode cL_law 1111 = .ok (.i2l, 1) := by decide +kernel
theorem dL_law_1112 : decode cL_law 1112 = .ok (.lcmp, 1) := by decide +kernel
theorem dL_law_1113 : decode cL_law 1113 = .ok (.ifCond .eq 5, 3) := by decide +kernel
theorem dL_law_1116 : decode cL_law 1116 = .ok (.iconst 0, 1) := by decide +kernel
theorem dL_law_1117 : decode cL_law 1117 = .ok (.ireturn, 1) := by decide +kernel
theorem dL_law_1118 : decode cL_law 1118 = .ok (.goto 679, 3) := by decide +kernel
theorem dL_law_1121 : decode cL_law 1121 = .ok (.aload_n 1, 1) := by decide +kernel
theorem dL_law_1122 : decode cL_law 1122 = .ok (.aload_n 0, 1) := by decide +kernel
theorem dL_law_1123 : decode cL_law 1123 = .ok (.iload 4, 2) := by decide +kernel
theorem dL_law_1125 : decode cL_law 1125 = .ok (.iconst 1, 1) := by decide +kernel
theorem dL_law_1126 : decode cL_law 1126 = .ok (.iadd, 1) := by decide +kernel
theorem dL_law_1127 : decode cL_law 1127 = .ok (.iaload, 1) := by decide +kernel
theorem dL_law_1128 : decode cL_law 1128 = .ok (.aload_n 0, 1) := by decide +kernel
theorem dL_law_1129 : decode cL_law 1129 = .ok (.iload 4, 2) := by decide +kernel
theorem dL_law_1131 : decode cL_law 1131 = .ok (.iconst 2, 1) := by decide +kernel
theorem dL_law_1132 : decode cL_law 1132 = .ok (.iadd, 1) := by decide +kernel
theorem dL_law_1133 : decode cL_law 1133 = .ok (.iaload, 1) := by decide +kernel
theorem dL_law_1134 : decode cL_law 1134 = .ok (.aload_n 0, 1) := by decide +kernel
theorem dL_law_1135 : decode cL_law 1135 = .ok (.iload 4, 2) := by decide +kernel
theorem dL_law_1137 : decode cL_law 1137 = .ok (.iconst 3, 1) := by decide +kernel
theorem dL_law_1138 : decode cL_law 1138 = .ok (.iadd, 1) := by decide +kernel
theorem dL_law_1139 : decode cL_law 1139 = .ok (.iaload, 1) := by decide +kernel
theorem dL_law_1140 : decode cL_law 1140 = .ok (.aload_n 3, 1) := by decide +kernel
theorem dL_law_1141 : decode cL_law 1141 = .ok (.invokestatic 161, 3) := by decide +kernel
theorem dL_law_1144 : decode cL_law 1144 = .ok (.istore 5, 2) := by decide +kernel
theorem dL_law_1146 : decode cL_law 1146 = .ok (.aload_n 2, 1) := by decide +kernel
theorem dL_law_1147 : decode cL_law 1147 = .ok (.aload_n 0, 1) := by decide +kernel
theorem dL_law_1148 : decode cL_law 1148 = .ok (.iload 4, 2) := by decide +kernel
theorem dL_law_1150 : decode cL_law 1150 = .ok (.iconst 1, 1) := by decide +kernel
theorem dL_law_1151 : decode cL_law 1151 = .ok (.iadd, 1) := by decide +kernel
theorem dL_law_1152 : decode cL_law 1152 = .ok (.iaload, 1) := by decide +kernel
theorem dL_law_1153 : decode cL_law 1153 = .ok (.aload_n 0, 1) := by decide +kernel
theorem dL_law_1154 : decode cL_law 1154 = .ok (.iload 4, 2) := by decide +kernel
theorem dL_law_1156 : decode cL_law 1156 = .ok (.iconst 2, 1) := by decide +kernel
theorem dL_law_1157 : decode cL_law 1157 = .ok (.iadd, 1) := by decide +kernel
theorem dL_law_1158 : decode cL_law 1158 = .ok (.iaload, 1) := by decide +kernel
theorem dL_law_1159 : decode cL_law 1159 = .ok (.aload_n 0, 1) := by decide +kernel
theorem dL_law_1160 : decode cL_law 1160 = .ok (.iload 4, 2) := by decide +kernel
theorem dL_law_1162 : decode cL_law 1162 = .ok (.iconst 3, 1) := by decide +kernel
theorem dL_law_1163 : decode cL_law 1163 = .ok (.iadd, 1) := by decide +kernel
theorem dL_law_1164 : decode cL_law 1164 = .ok (.iaload, 1) := by decide +kernel
theorem dL_law_1165 : decode cL_law 1165 = .ok (.invokevirtual 163, 3) := by decide +kernel
theorem dL_law_1168 : decode cL_law 1168 = .ok (.istore 6, 2) := by decide +kernel
theorem dL_law_1170 : decode cL_law 1170 = .ok (.aload_n 2, 1) := by decide +kernel
theorem dL_law_1171 : decode cL_law 1171 = .ok (.invokevirtual 105, 3) := by decide +kernel
theorem dL_law_1174 : decode cL_law 1174 = .ok (.iload 5, 2) := by decide +kernel
theorem dL_law_1176 : decode cL_law 1176 = .ok (.if_icmp .eq 5, 3) := by decide +kernel
theorem dL_law_1179 : decode cL_law 1179 = .ok (.iconst 0, 1) := by decide +kernel
theorem dL_law_1180 : decode cL_law 1180 = .ok (.ireturn, 1) := by decide +kernel
theorem dL_law_1181 : decode cL_law 1181 = .ok (.iload 5, 2) := by decide +kernel
theorem dL_law_1183 : decode cL_law 1183 = .ok (.ifCond .ne 15, 3) := by decide +kernel
theorem dL_law_1186 : decode cL_law 1186 = .ok (.aload_n 3, 1) := by decide +kernel
theorem dL_law_1187 : decode cL_law 1187 = .ok (.iconst 0, 1) := by decide +kernel
theorem dL_law_1188 : decode cL_law 1188 = .ok (.laload, 1) := by decide +kernel
theorem dL_law_1189 : decode cL_law 1189 = .ok (.iload 6, 2) := by decide +kernel
theorem dL_law_1191 : decode cL_law 1191 = .ok (.i2l, 1) := by decide +kernel
theorem dL_law_1192 : decode cL_law 1192 = .ok (.lcmp, 1) := by decide +kernel
theorem dL_law_1193 : decode cL_law 1193 = .ok (.ifCond .eq 5, 3) := by decide +kernel
theorem dL_law_1196 : decode cL_law 1196 = .ok (.iconst 0, 1) := by decide +kernel
theorem dL_law_1197 : decode cL_law 1197 = .ok (.ireturn, 1) := by decide +kernel
theorem dL_law_1198 : decode cL_law 1198 = .ok (.goto 599, 3) := by decide +kernel
theorem dL_law_1201 : decode cL_law 1201 = .ok (.aload_n 1, 1) := by decide +kernel
theorem dL_law_1202 : decode cL_law 1202 = .ok (.aload_n 0, 1) := by decide +kernel
theorem dL_law_1203 : decode cL_law 1203 = .ok (.iload 4, 2) := by decide +kernel
theorem dL_law_1205 : decode cL_law 1205 = .ok (.iconst 1, 1) := by decide +kernel
theorem dL_law_1206 : decode cL_law 1206 = .ok (.iadd, 1) := by decide +kernel
theorem dL_law_1207 : decode cL_law 1207 = .ok (.iaload, 1) := by decide +kernel
theorem dL_law_1208 : decode cL_law 1208 = .ok (.aload_n 0, 1) := by decide +kernel
theorem dL_law_1209 : decode cL_law 1209 = .ok (.iload 4, 2) := by decide +kernel
theorem dL_law_1211 : decode cL_law 1211 = .ok (.iconst 2, 1) := by decide +kernel
theorem dL_law_1212 : decode cL_law 1212 = .ok (.iadd, 1) := by decide +kernel
theorem dL_law_1213 : decode cL_law 1213 = .ok (.iaload, 1) := by decide +kernel
theorem dL_law_1214 : decode cL_law 1214 = .ok (.aload_n 0, 1) := by decide +kernel
theorem dL_law_1215 : decode cL_law 1215 = .ok (.iload 4, 2) := by decide +kernel
theorem dL_law_1217 : decode cL_law 1217 = .ok (.iconst 3, 1) := by decide +kernel
theorem dL_law_1218 : decode cL_law 1218 = .ok (.iadd, 1) := by decide +kernel
theorem dL_law_1219 : decode cL_law 1219 = .ok (.iaload, 1) := by decide +kernel
theorem dL_law_1220 : decode cL_law 1220 = .ok (.aload_n 3, 1) := by decide +kernel
theorem dL_law_1221 : decode cL_law 1221 = .ok (.invokestatic 164, 3) := by decide +kernel
theorem dL_law_1224 : decode cL_law 1224 = .ok (.istore 5, 2) := by decide +kernel
theorem dL_law_1226 : decode cL_law 1226 = .ok (.aload_n 2, 1) := by decide +kernel
theorem dL_law_1227 : decode cL_law 1227 = .ok (.aload_n 0, 1) := by decide +kernel
theorem dL_law_1228 : decode cL_law 1228 = .ok (.iload 4, 2) := by decide +kernel
theorem dL_law_1230 : decode cL_law 1230 = .ok (.iconst 1, 1) := by decide +kernel
theorem dL_law_1231 : decode cL_law 1231 = .ok (.iadd, 1) := by decide +kernel
theorem dL_law_1232 : decode cL_law 1232 = .ok (.iaload, 1) := by decide +kernel
theorem dL_law_1233 : decode cL_law 1233 = .ok (.aload_n 0, 1) := by decide +kernel
theorem dL_law_1234 : decode cL_law 1234 = .ok (.iload 4, 2) := by decide +kernel
theorem dL_law_1236 : decode cL_law 1236 = .ok (.iconst 2, 1) := by decide +kernel
theorem dL_law_1237 : decode cL_law 1237 = .ok (.iadd, 1) := by decide +kernel
theorem dL_law_1238 : decode cL_law 1238 = .ok (.iaload, 1) := by decide +kernel
theorem dL_law_1239 : decode cL_law 1239 = .ok (.aload_n 0, 1) := by decide +kernel
theorem dL_law_1240 : decode cL_law 1240 = .ok (.iload 4, 2) := by decide +kernel
theorem dL_law_1242 : decode cL_law 1242 = .ok (.iconst 3, 1) := by decide +kernel
theorem dL_law_1243 : decode cL_law 1243 = .ok (.iadd, 1) := by decide +kernel
theorem dL_law_1244 : decode cL_law 1244 = .ok (.iaload, 1) := by decide +kernel
theorem dL_law_1245 : decode cL_law 1245 = .ok (.invokevirtual 166, 3) := by decide +kernel
theorem dL_law_1248 : decode cL_law 1248 = .ok (.istore 6, 2) := by decide +kernel
theorem dL_law_1250 : decode cL_law 1250 = .ok (.aload_n 2, 1) := by decide +kernel
theorem dL_law_1251 : decode cL_law 1251 = .ok (.invokevirtual 105, 3) := by decide +kernel
theorem dL_law_1254 : decode cL_law 1254 = .ok (.iload 5, 2) := by decide +kernel
theorem dL_law_1256 : decode cL_law 1256 = .ok (.if_icmp .eq 5, 3) := by decide +kernel
theorem dL_law_1259 : decode cL_law 1259 = .ok (.iconst 0, 1) := by decide +kernel
theorem dL_law_1260 : decode cL_law 1260 = .ok (.ireturn, 1) := by decide +kernel
theorem dL_law_1261 : decode cL_law 1261 = .ok (.iload 5, 2) := by decide +kernel
theorem dL_law_1263 : decode cL_law 1263 = .ok (.ifCond .ne 15, 3) := by decide +kernel
theorem dL_law_1266 : decode cL_law 1266 = .ok (.aload_n 3, 1) := by decide +kernel
theorem dL_law_1267 : decode cL_law 1267 = .ok (.iconst 0, 1) := by decide +kernel
theorem dL_law_1268 : decode cL_law 1268 = .ok (.laload, 1) := by decide +kernel
theorem dL_law_1269 : decode cL_law 1269 = .ok (.iload 6, 2) := by decide +kernel
theorem dL_law_1271 : decode cL_law 1271 = .ok (.i2l, 1) := by decide +kernel
theorem dL_law_1272 : decode cL_law 1272 = .ok (.lcmp, 1) := by decide +kernel
theorem dL_law_1273 : decode cL_law 1273 = .ok (.ifCond .eq 5, 3) := by decide +kernel
theorem dL_law_1276 : decode cL_law 1276 = .ok (.iconst 0, 1) := by decide +kernel
theorem dL_law_1277 : decode cL_law 1277 = .ok (.ireturn, 1) := by decide +kernel
theorem dL_law_1278 : decode cL_law 1278 = .ok (.goto 519, 3) := by decide +kernel
theorem dL_law_1281 : decode cL_law 1281 = .ok (.aload_n 1, 1) := by decide +kernel
theorem dL_law_1282 : decode cL_law 1282 = .ok (.aload_n 0, 1) := by decide +kernel
theorem dL_law_1283 : decode cL_law 1283 = .ok (.iload 4, 2) := by decide +kernel
theorem dL_law_1285 : decode cL_law 1285 = .ok (.iconst 1, 1) := by decide +kernel
theorem dL_law_1286 : decode cL_law 1286 = .ok (.iadd, 1) := by decide +kernel
theorem dL_law_1287 : decode cL_law 1287 = .ok (.iaload, 1) := by decide +kernel
theorem dL_law_1288 : decode cL_law 1288 = .ok (.aload_n 0, 1) := by decide +kernel
theorem dL_law_1289 : decode cL_law 1289 = .ok (.iload 4, 2) := by decide +kernel
theorem dL_law_1291 : decode cL_law 1291 = .ok (.iconst 2, 1) := by decide +kernel
theorem dL_law_1292 : decode cL_law 1292 = .ok (.iadd, 1) := by decide +kernel
theorem dL_law_1293 : decode cL_law 1293 = .ok (.iaload, 1) := by decide +kernel
theorem dL_law_1294 : decode cL_law 1294 = .ok (.aload_n 3, 1) := by decide +kernel
theorem dL_law_1295 : decode cL_law 1295 = .ok (.invokestatic 167, 3) := by decide +kernel
theorem dL_law_1298 : decode cL_law 1298 = .ok (.istore 5, 2) := by decide +kernel
theorem dL_law_1300 : decode cL_law 1300 = .ok (.aload_n 2, 1) := by decide +kernel
theorem dL_law_1301 : decode cL_law 1301 = .ok (.aload_n 0, 1) := by decide +kernel
theorem dL_law_1302 : decode cL_law 1302 = .ok (.iload 4, 2) := by decide +kernel
theorem dL_law_1304 : decode cL_law 1304 = .ok (.iconst 1, 1) := by decide +kernel
theorem dL_law_1305 : decode cL_law 1305 = .ok (.iadd, 1) := by decide +kernel
theorem dL_law_1306 : decode cL_law 1306 = .ok (.iaload, 1) := by decide +kernel
theorem dL_law_1307 : decode cL_law 1307 = .ok (.aload_n 0, 1) := by decide +kernel
theorem dL_law_1308 : decode cL_law 1308 = .ok (.iload 4, 2) := by decide +kernel
theorem dL_law_1310 : decode cL_law 1310 = .ok (.iconst 2, 1) := by decide +kernel
theorem dL_law_1311 : decode cL_law 1311 = .ok (.iadd, 1) := by decide +kernel
theorem dL_law_1312 : decode cL_law 1312 = .ok (.iaload, 1) := by decide +kernel
theorem dL_law_1313 : decode cL_law 1313 = .ok (.invokevirtual 169, 3) := by decide +kernel
theorem dL_law_1316 : decode cL_law 1316 = .ok (.istore 6, 2) := by decide +kernel
theorem dL_law_1318 : decode cL_law 1318 = .ok (.aload_n 2, 1) := by decide +kernel
theorem dL_law_1319 : decode cL_law 1319 = .ok (.invokevirtual 105, 3) := by decide +kernel
theorem dL_law_1322 : decode cL_law 1322 = .ok (.iload 5, 2) := by decide +kernel
theorem dL_law_1324 : decode cL_law 1324 = .ok (.if_icmp .eq 5, 3) := by decide +kernel
theorem dL_law_1327 : decode cL_law 1327 = .ok (.iconst 0, 1) := by decide +kernel
theorem dL_law_1328 : decode cL_law 1328 = .ok (.ireturn, 1) := by decide +kernel
theorem dL_law_1329 : decode cL_law 1329 = .ok (.iload 5, 2) := by decide +kernel
theorem dL_law_1331 : decode cL_law 1331 = .ok (.ifCond .ne 22, 3) := by decide +kernel
theorem dL_law_1334 : decode cL_law 1334 = .ok (.aload_n 3, 1) := by decide +kernel
theorem dL_law_1335 : decode cL_law 1335 = .ok (.iconst 0, 1) := by decide +kernel
theorem dL_law_1336 : decode cL_law 1336 = .ok (.laload, 1) := by decide +kernel
theorem dL_law_1337 : decode cL_law 1337 = .ok (.iload 6, 2) := by decide +kernel
theorem dL_law_1339 : decode cL_law 1339 = .ok (.ifCond .eq 7, 3) := by decide +kernel
theorem dL_law_1342 : decode cL_law 1342 = .ok (.lconst 1, 1) := by decide +kernel
theorem dL_law_1343 : decode cL_law 1343 = .ok (.goto 4, 3) := by decide +kernel
theorem dL_law_1346 : decode cL_law 1346 = .ok (.lconst 0, 1) := by decide +kernel
theorem dL_law_1347 : decode cL_law 1347 = .ok (.lcmp, 1) := by decide +kernel
theorem dL_law_1348 : decode cL_law 1348 = .ok (.ifCond .eq 5, 3) := by decide +kernel
theorem dL_law_1351 : decode cL_law 1351 = .ok (.iconst 0, 1) := by decide +kernel
theorem dL_law_1352 : decode cL_law 1352 = .ok (.ireturn, 1) := by decide +kernel
theorem dL_law_1353 : decode cL_law 1353 = .ok (.goto 444, 3) := by decide +kernel
theorem dL_law_1356 : decode cL_law 1356 = .ok (.aload_n 1, 1) := by decide +kernel
theorem dL_law_1357 : decode cL_law 1357 = .ok (.aload_n 0, 1) := by decide +kernel
theorem dL_law_1358 : decode cL_law 1358 = .ok (.iload 4, 2) := by decide +kernel
theorem dL_law_1360 : decode cL_law 1360 = .ok (.iconst 1, 1) := by decide +kernel
theorem dL_law_1361 : decode cL_law 1361 = .ok (.iadd, 1) := by decide +kernel
theorem dL_law_1362 : decode cL_law 1362 = .ok (.iaload, 1) := by decide +kernel
theorem dL_law_1363 : decode cL_law 1363 = .ok (.aload_n 0, 1) := by decide +kernel
theorem dL_law_1364 : decode cL_law 1364 = .ok (.iload 4, 2) := by decide +kernel
theorem dL_law_1366 : decode cL_law 1366 = .ok (.iconst 2, 1) := by decide +kernel
theorem dL_law_1367 : decode cL_law 1367 = .ok (.iadd, 1) := by decide +kernel
theorem dL_law_1368 : decode cL_law 1368 = .ok (.iaload, 1) := by decide +kernel
theorem dL_law_1369 : decode cL_law 1369 = .ok (.aload_n 3, 1) := by decide +kernel
theorem dL_law_1370 : decode cL_law 1370 = .ok (.invokestatic 170, 3) := by decide +kernel
theorem dL_law_1373 : decode cL_law 1373 = .ok (.istore 5, 2) := by decide +kernel
theorem dL_law_1375 : decode cL_law 1375 = .ok (.aload_n 2, 1) := by decide +kernel
theorem dL_law_1376 : decode cL_law 1376 = .ok (.aload_n 0, 1) := by decide +kernel
theorem dL_law_1377 : decode cL_law 1377 = .ok (.iload 4, 2) := by decide +kernel
theorem dL_law_1379 : decode cL_law 1379 = .ok (.iconst 1, 1) := by decide +kernel
theorem dL_law_1380 : decode cL_law 1380 = .ok (.iadd, 1) := by decide +kernel
theorem dL_law_1381 : decode cL_law 1381 = .ok (.iaload, 1) := by decide +kernel
theorem dL_law_1382 : decode cL_law 1382 = .ok (.aload_n 0, 1) := by decide +kernel
theorem dL_law_1383 : decode cL_law 1383 = .ok (.iload 4, 2) := by decide +kernel
theorem dL_law_1385 : decode cL_law 1385 = .ok (.iconst 2, 1) := by decide +kernel
theorem dL_law_1386 : decode cL_law 1386 = .ok (.iadd, 1) := by decide +kernel
theorem dL_law_1387 : decode cL_law 1387 = .ok (.iaload, 1) := by decide +kernel
theorem dL_law_1388 : decode cL_law 1388 = .ok (.invokevirtual 172, 3) := by decide +kernel
theorem dL_law_1391 : decode cL_law 1391 = .ok (.istore 6, 2) := by decide +kernel
theorem dL_law_1393 : decode cL_law 1393 = .ok (.aload_n 2, 1) := by decide +kernel
theorem dL_law_1394 : decode cL_law 1394 = .ok (.invokevirtual 105, 3) := by decide +kernel
theorem dL_law_1397 : decode cL_law 1397 = .ok (.iload 5, 2) := by decide +kernel
theorem dL_law_1399 : decode cL_law 1399 = .ok (.if_icmp .eq 5, 3) := by decide +kernel
theorem dL_law_1402 : decode cL_law 1402 = .ok (.iconst 0, 1) := by decide +kernel
theorem dL_law_1403 : decode cL_law 1403 = .ok (.ireturn, 1) := by decide +kernel
theorem dL_law_1404 : decode cL_law 1404 = .ok (.iload 5, 2) := by decide +kernel
theorem dL_law_1406 : decode cL_law 1406 = .ok (.ifCond .ne 15, 3) := by decide +kernel
theorem dL_law_1409 : decode cL_law 1409 = .ok (.aload_n 3, 1) := by decide +kernel
theorem dL_law_1410 : decode cL_law 1410 = .ok (.iconst 0, 1) := by decide +kernel
theorem dL_law_1411 : decode cL_law 1411 = .ok (.laload, 1) := by decide +kernel
theorem dL_law_1412 : decode cL_law 1412 = .ok (.iload 6, 2) := by decide +kernel
theorem dL_law_1414 : decode cL_law 1414 = .ok (.i2l, 1) := by decide +kernel
theorem dL_law_1415 : decode cL_law 1415 = .ok (.lcmp, 1) := by decide +kernel
theorem dL_law_1416 : decode cL_law 1416 = .ok (.ifCond .eq 5, 3) := by decide +kernel
theorem dL_law_1419 : decode cL_law 1419 = .ok (.iconst 0, 1) := by decide +kernel
theorem dL_law_1420 : decode cL_law 1420 = .ok (.ireturn, 1) := by decide +kernel
theorem dL_law_1421 : decode cL_law 1421 = .ok (.goto 376, 3) := by decide +kernel
theorem dL_law_1424 : decode cL_law 1424 = .ok (.aload_n 1, 1) := by decide +kernel
theorem dL_law_1425 : decode cL_law 1425 = .ok (.aload_n 0, 1) := by decide +kernel
theorem dL_law_1426 : decode cL_law 1426 = .ok (.iload 4, 2) := by decide +kernel
theorem dL_law_1428 : decode cL_law 1428 = .ok (.iconst 1, 1) := by decide +kernel
theorem dL_law_1429 : decode cL_law 1429 = .ok (.iadd, 1) := by decide +kernel
theorem dL_law_1430 : decode cL_law 1430 = .ok (.iaload, 1) := by decide +kernel
theorem dL_law_1431 : decode cL_law 1431 = .ok (.aload_n 0, 1) := by decide +kernel
theorem dL_law_1432 : decode cL_law 1432 = .ok (.iload 4, 2) := by decide +kernel
theorem dL_law_1434 : decode cL_law 1434 = .ok (.iconst 2, 1) := by decide +kernel
theorem dL_law_1435 : decode cL_law 1435 = .ok (.iadd, 1) := by decide +kernel
theorem dL_law_1436 : decode cL_law 1436 = .ok (.iaload, 1) := by decide +kernel
theorem dL_law_1437 : decode cL_law 1437 = .ok (.aload_n 3, 1) := by decide +kernel
theorem dL_law_1438 : decode cL_law 1438 = .ok (.invokestatic 173, 3) := by decide +kernel
theorem dL_law_1441 : decode cL_law 1441 = .ok (.istore 5, 2) := by decide +kernel
theorem dL_law_1443 : decode cL_law 1443 = .ok (.aload_n 2, 1) := by decide +kernel
theorem dL_law_1444 : decode cL_law 1444 = .ok (.aload_n 0, 1) := by decide +kernel
theorem dL_law_1445 : decode cL_law 1445 = .ok (.iload 4, 2) := by decide +kernel
theorem dL_law_1447 : decode cL_law 1447 = .ok (.iconst 1, 1) := by decide +kernel
theorem dL_law_1448 : decode cL_law 1448 = .ok (.iadd, 1) := by decide +kernel
theorem dL_law_1449 : decode cL_law 1449 = .ok (.iaload, 1) := by decide +kernel
theorem dL_law_1450 : decode cL_law 1450 = .ok (.aload_n 0, 1) := by decide +kernel
theorem dL_law_1451 : decode cL_law 1451 = .ok (.iload 4, 2) := by decide +kernel
theorem dL_law_1453 : decode cL_law 1453 = .ok (.iconst 2, 1) := by decide +kernel
theorem dL_law_1454 : decode cL_law 1454 = .ok (.iadd, 1) := by decide +kernel
theorem dL_law_1455 : decode cL_law 1455 = .ok (.iaload, 1) := by decide +kernel
theorem dL_law_1456 : decode cL_law 1456 = .ok (.invokevirtual 175, 3) := by decide +kernel
theorem dL_law_1459 : decode cL_law 1459 = .ok (.lstore 6, 2) := by decide +kernel
theorem dL_law_1461 : decode cL_law 1461 = .ok (.aload_n 2, 1) := by decide +kernel
theorem dL_law_1462 : decode cL_law 1462 = .ok (.invokevirtual 105, 3) := by decide +kernel
theorem dL_law_1465 : decode cL_law 1465 = .ok (.iload 5, 2) := by decide +kernel
theorem dL_law_1467 : decode cL_law 1467 = .ok (.if_icmp .eq 5, 3) := by decide +kernel
theorem dL_law_1470 : decode cL_law 1470 = .ok (.iconst 0, 1) := by decide +kernel
theorem dL_law_1471 : decode cL_law 1471 = .ok (.ireturn, 1) := by decide +kernel
theorem dL_law_1472 : decode cL_law 1472 = .ok (.iload 5, 2) := by decide +kernel
theorem dL_law_1474 : decode cL_law 1474 = .ok (.ifCond .ne 14, 3) := by decide +kernel
theorem dL_law_1477 : decode cL_law 1477 = .ok (.aload_n 3, 1) := by decide +kernel
theorem dL_law_1478 : decode cL_law 1478 = .ok (.iconst 0, 1) := by decide +kernel
theorem dL_law_1479 : decode cL_law 1479 = .ok (.laload, 1) := by decide +kernel
theorem dL_law_1480 : decode cL_law 1480 = .ok (.lload 6, 2) := by decide +kernel
theorem dL_law_1482 : decode cL_law 1482 = .ok (.lcmp, 1) := by decide +kernel
theorem dL_law_1483 : decode cL_law 1483 = .ok (.ifCond .eq 5, 3) := by decide +kernel
theorem dL_law_1486 : decode cL_law 1486 = .ok (.iconst 0, 1) := by decide +kernel
theorem dL_law_1487 : decode cL_law 1487 = .ok (.ireturn, 1) := by decide +kernel
theorem dL_law_1488 : decode cL_law 1488 = .ok (.goto 309, 3) := by decide +kernel
theorem dL_law_1491 : decode cL_law 1491 = .ok (.aload_n 1, 1) := by decide +kernel
theorem dL_law_1492 : decode cL_law 1492 = .ok (.invokevirtual 176, 3) := by decide +kernel
theorem dL_law_1495 : decode cL_law 1495 = .ok (.aload_n 2, 1) := by decide +kernel
theorem dL_law_1496 : decode cL_law 1496 = .ok (.invokevirtual 179, 3) := by decide +kernel
theorem dL_law_1499 : decode cL_law 1499 = .ok (.if_icmp .eq 298, 3) := by decide +kernel
theorem dL_law_1502 : decode cL_law 1502 = .ok (.iconst 0, 1) := by decide +kernel
theorem dL_law_1503 : decode cL_law 1503 = .ok (.ireturn, 1) := by decide +kernel
theorem dL_law_1504 : decode cL_law 1504 = .ok (.aload_n 1, 1) := by decide +kernel
theorem dL_law_1505 : decode cL_law 1505 = .ok (.aload_n 0, 1) := by decide +kernel
theorem dL_law_1506 : decode cL_law 1506 = .ok (.iload 4, 2) := by decide +kernel
theorem dL_law_1508 : decode cL_law 1508 = .ok (.iconst 1, 1) := by decide +kernel
theorem dL_law_1509 : decode cL_law 1509 = .ok (.iadd, 1) := by decide +kernel
theorem dL_law_1510 : decode cL_law 1510 = .ok (.iaload, 1) := by decide +kernel
theorem dL_law_1511 : decode cL_law 1511 = .ok (.aload_n 0, 1) := by decide +kernel
theorem dL_law_1512 : decode cL_law 1512 = .ok (.iload 4, 2) := by decide +kernel
theorem dL_law_1514 : decode cL_law 1514 = .ok (.iconst 2, 1) := by decide +kernel
theorem dL_law_1515 : decode cL_law 1515 = .ok (.iadd, 1) := by decide +kernel
theorem dL_law_1516 : decode cL_law 1516 = .ok (.iaload, 1) := by decide +kernel
theorem dL_law_1517 : decode cL_law 1517 = .ok (.aload_n 0, 1) := by decide +kernel
theorem dL_law_1518 : decode cL_law 1518 = .ok (.iload 4, 2) := by decide +kernel
theorem dL_law_1520 : decode cL_law 1520 = .ok (.iconst 3, 1) := by decide +kernel
theorem dL_law_1521 : decode cL_law 1521 = .ok (.iadd, 1) := by decide +kernel
theorem dL_law_1522 : decode cL_law 1522 = .ok (.iaload, 1) := by decide +kernel
theorem dL_law_1523 : decode cL_law 1523 = .ok (.aload_n 3, 1) := by decide +kernel
theorem dL_law_1524 : decode cL_law 1524 = .ok (.invokestatic 180, 3) := by decide +kernel
theorem dL_law_1527 : decode cL_law 1527 = .ok (.istore 5, 2) := by decide +kernel
theorem dL_law_1529 : decode cL_law 1529 = .ok (.aload_n 2, 1) := by decide +kernel
theorem dL_law_1530 : decode cL_law 1530 = .ok (.aload_n 0, 1) := by decide +kernel
theorem dL_law_1531 : decode cL_law 1531 = .ok (.iload 4, 2) := by decide +kernel
theorem dL_law_1533 : decode cL_law 1533 = .ok (.iconst 1, 1) := by decide +kernel
theorem dL_law_1534 : decode cL_law 1534 = .ok (.iadd, 1) := by decide +kernel
theorem dL_law_1535 : decode cL_law 1535 = .ok (.iaload, 1) := by decide +kernel
theorem dL_law_1536 : decode cL_law 1536 = .ok (.aload_n 0, 1) := by decide +kernel
theorem dL_law_1537 : decode cL_law 1537 = .ok (.iload 4, 2) := by decide +kernel
theorem dL_law_1539 : decode cL_law 1539 = .ok (.iconst 2, 1) := by decide +kernel
theorem dL_law_1540 : decode cL_law 1540 = .ok (.iadd, 1) := by decide +kernel
theorem dL_law_1541 : decode cL_law 1541 = .ok (.iaload, 1) := by decide +kernel
theorem dL_law_1542 : decode cL_law 1542 = .ok (.aload_n 0, 1) := by decide +kernel
theorem dL_law_1543 : decode cL_law 1543 = .ok (.iload 4, 2) := by decide +kernel
theorem dL_law_1545 : decode cL_law 1545 = .ok (.iconst 3, 1) := by decide +kernel
theorem dL_law_1546 : decode cL_law 1546 = .ok (.iadd, 1) := by decide +kernel
theorem dL_law_1547 : decode cL_law 1547 = .ok (.iaload, 1) := by decide +kernel
theorem dL_law_1548 : decode cL_law 1548 = .ok (.invokevirtual 182, 3) := by decide +kernel
theorem dL_law_1551 : decode cL_law 1551 = .ok (.istore 6, 2) := by decide +kernel
theorem dL_law_1553 : decode cL_law 1553 = .ok (.aload_n 2, 1) := by decide +kernel
theorem dL_law_1554 : decode cL_law 1554 = .ok (.invokevirtual 105, 3) := by decide +kernel
theorem dL_law_1557 : decode cL_law 1557 = .ok (.iload 5, 2) := by decide +kernel
theorem dL_law_1559 : decode cL_law 1559 = .ok (.if_icmp .eq 5, 3) := by decide +kernel
theorem dL_law_1562 : decode cL_law 1562 = .ok (.iconst 0, 1) := by decide +kernel
theorem dL_law_1563 : decode cL_law 1563 = .ok (.ireturn, 1) := by decide +kernel
theorem dL_law_1564 : decode cL_law 1564 = .ok (.iload 5, 2) := by decide +kernel
theorem dL_law_1566 : decode cL_law 1566 = .ok (.ifCond .ne 15, 3) := by decide +kernel
theorem dL_law_1569 : decode cL_law 1569 = .ok (.aload_n 3, 1) := by decide +kernel
theorem dL_law_1570 : decode cL_law 1570 = .ok (.iconst 0, 1) := by decide +kernel
theorem dL_law_1571 : decode cL_law 1571 = .ok (.laload, 1) := by decide +kernel
theorem dL_law_1572 : decode cL_law 1572 = .ok (.iload 6, 2) := by decide +kernel
theorem dL_law_1574 : decode cL_law 1574 = .ok (.i2l, 1) := by decide +kernel
theorem dL_law_1575 : decode cL_law 1575 = .ok (.lcmp, 1) := by decide +kernel
theorem dL_law_1576 : decode cL_law 1576 = .ok (.ifCond .eq 5, 3) := by decide +kernel
theorem dL_law_1579 : decode cL_law 1579 = .ok (.iconst 0, 1) := by decide +kernel
theorem dL_law_1580 : decode cL_law 1580 = .ok (.ireturn, 1) := by decide +kernel
theorem dL_law_1581 : decode cL_law 1581 = .ok (.goto 216, 3) := by decide +kernel
theorem dL_law_1584 : decode cL_law 1584 = .ok (.aload_n 1, 1) := by decide +kernel
theorem dL_law_1585 : decode cL_law 1585 = .ok (.aload_n 0, 1) := by decide +kernel
theorem dL_law_1586 : decode cL_law 1586 = .ok (.iload 4, 2) := by decide +kernel
theorem dL_law_1588 : decode cL_law 1588 = .ok (.iconst 1, 1) := by decide +kernel
theorem dL_law_1589 : decode cL_law 1589 = .ok (.iadd, 1) := by decide +kernel
theorem dL_law_1590 : decode cL_law 1590 = .ok (.iaload, 1) := by decide +kernel
theorem dL_law_1591 : decode cL_law 1591 = .ok (.aload_n 0, 1) := by decide +kernel
theorem dL_law_1592 : decode cL_law 1592 = .ok (.iload 4, 2) := by decide +kernel
theorem dL_law_1594 : decode cL_law 1594 = .ok (.iconst 2, 1) := by decide +kernel
theorem dL_law_1595 : decode cL_law 1595 = .ok (.iadd, 1) := by decide +kernel
theorem dL_law_1596 : decode cL_law 1596 = .ok (.iaload, 1) := by decide +kernel
theorem dL_law_1597 : decode cL_law 1597 = .ok (.aload_n 3, 1) := by decide +kernel
theorem dL_law_1598 : decode cL_law 1598 = .ok (.invokestatic 183, 3) := by decide +kernel
theorem dL_law_1601 : decode cL_law 1601 = .ok (.istore 5, 2) := by decide +kernel
theorem dL_law_1603 : decode cL_law 1603 = .ok (.aload_n 2, 1) := by decide +kernel
theorem dL_law_1604 : decode cL_law 1604 = .ok (.aload_n 0, 1) := by decide +kernel
theorem dL_law_1605 : decode cL_law 1605 = .ok (.iload 4, 2) := by decide +kernel
theorem dL_law_1607 : decode cL_law 1607 = .ok (.iconst 1, 1) := by decide +kernel
theorem dL_law_1608 : decode cL_law 1608 = .ok (.iadd, 1) := by decide +kernel
theorem dL_law_1609 : decode cL_law 1609 = .ok (.iaload, 1) := by decide +kernel
theorem dL_law_1610 : decode cL_law 1610 = .ok (.aload_n 0, 1) := by decide +kernel
theorem dL_law_1611 : decode cL_law 1611 = .ok (.iload 4, 2) := by decide +kernel
theorem dL_law_1613 : decode cL_law 1613 = .ok (.iconst 2, 1) := by decide +kernel
theorem dL_law_1614 : decode cL_law 1614 = .ok (.iadd, 1) := by decide +kernel
theorem dL_law_1615 : decode cL_law 1615 = .ok (.iaload, 1) := by decide +kernel
theorem dL_law_1616 : decode cL_law 1616 = .ok (.invokevirtual 185, 3) := by decide +kernel
theorem dL_law_1619 : decode cL_law 1619 = .ok (.lstore 6, 2) := by decide +kernel
theorem dL_law_1621 : decode cL_law 1621 = .ok (.aload_n 2, 1) := by decide +kernel
theorem dL_law_1622 : decode cL_law 1622 = .ok (.invokevirtual 105, 3) := by decide +kernel
theorem dL_law_1625 : decode cL_law 1625 = .ok (.iload 5, 2) := by decide +kernel
theorem dL_law_1627 : decode cL_law 1627 = .ok (.if_icmp .eq 5, 3) := by decide +kernel
theorem dL_law_1630 : decode cL_law 1630 = .ok (.iconst 0, 1) := by decide +kernel
theorem dL_law_1631 : decode cL_law 1631 = .ok (.ireturn, 1) := by decide +kernel
theorem dL_law_1632 : decode cL_law 1632 = .ok (.iload 5, 2) := by decide +kernel
theorem dL_law_1634 : decode cL_law 1634 = .ok (.ifCond .ne 14, 3) := by decide +kernel
theorem dL_law_1637 : decode cL_law 1637 = .ok (.aload_n 3, 1) := by decide +kernel
theorem dL_law_1638 : decode cL_law 1638 = .ok (.iconst 0, 1) := by decide +kernel
theorem dL_law_1639 : decode cL_law 1639 = .ok (.laload, 1) := by decide +kernel
theorem dL_law_1640 : decode cL_law 1640 = .ok (.lload 6, 2) := by decide +kernel
theorem dL_law_1642 : decode cL_law 1642 = .ok (.lcmp, 1) := by decide +kernel
theorem dL_law_1643 : decode cL_law 1643 = .ok (.ifCond .eq 5, 3) := by decide +kernel
theorem dL_law_1646 : decode cL_law 1646 = .ok (.iconst 0, 1) := by decide +kernel
theorem dL_law_1647 : decode cL_law 1647 = .ok (.ireturn, 1) := by decide +kernel
theorem dL_law_1648 : decode cL_law 1648 = .ok (.goto 149, 3) := by decide +kernel
theorem dL_law_1651 : decode cL_law 1651 = .ok (.aload_n 1, 1) := by decide +kernel
theorem dL_law_1652 : decode cL_law 1652 = .ok (.aload_n 0, 1) := by decide +kernel
theorem dL_law_1653 : decode cL_law 1653 = .ok (.iload 4, 2) := by decide +kernel
theorem dL_law_1655 : decode cL_law 1655 = .ok (.iconst 1, 1) := by decide +kernel
theorem dL_law_1656 : decode cL_law 1656 = .ok (.iadd, 1) := by decide +kernel
theorem dL_law_1657 : decode cL_law 1657 = .ok (.iaload, 1) := by decide +kernel
theorem dL_law_1658 : decode cL_law 1658 = .ok (.aload_n 0, 1) := by decide +kernel
theorem dL_law_1659 : decode cL_law 1659 = .ok (.iload 4, 2) := by decide +kernel
theorem dL_law_1661 : decode cL_law 1661 = .ok (.iconst 2, 1) := by decide +kernel
theorem dL_law_1662 : decode cL_law 1662 = .ok (.iadd, 1) := by decide +kernel
theorem dL_law_1663 : decode cL_law 1663 = .ok (.iaload, 1) := by decide +kernel
theorem dL_law_1664 : decode cL_law 1664 = .ok (.aload_n 0, 1) := by decide +kernel
theorem dL_law_1665 : decode cL_law 1665 = .ok (.iload 4, 2) := by decide +kernel
theorem dL_law_1667 : decode cL_law 1667 = .ok (.iconst 3, 1) := by decide +kernel
theorem dL_law_1668 : decode cL_law 1668 = .ok (.iadd, 1) := by decide +kernel
theorem dL_law_1669 : decode cL_law 1669 = .ok (.iaload, 1) := by decide +kernel
theorem dL_law_1670 : decode cL_law 1670 = .ok (.aload_n 3, 1) := by decide +kernel
theorem dL_law_1671 : decode cL_law 1671 = .ok (.invokestatic 186, 3) := by decide +kernel
theorem dL_law_1674 : decode cL_law 1674 = .ok (.istore 5, 2) := by decide +kernel
theorem dL_law_1676 : decode cL_law 1676 = .ok (.aload_n 2, 1) := by decide +kernel
theorem dL_law_1677 : decode cL_law 1677 = .ok (.aload_n 0, 1) := by decide +kernel
theorem dL_law_1678 : decode cL_law 1678 = .ok (.iload 4, 2) := by decide +kernel
theorem dL_law_1680 : decode cL_law 1680 = .ok (.iconst 1, 1) := by decide +kernel
theorem dL_law_1681 : decode cL_law 1681 = .ok (.iadd, 1) := by decide +kernel
theorem dL_law_1682 : decode cL_law 1682 = .ok (.iaload, 1) := by decide +kernel
theorem dL_law_1683 : decode cL_law 1683 = .ok (.aload_n 0, 1) := by decide +kernel
theorem dL_law_1684 : decode cL_law 1684 = .ok (.iload 4, 2) := by decide +kernel
theorem dL_law_1686 : decode cL_law 1686 = .ok (.iconst 2, 1) := by decide +kernel
theorem dL_law_1687 : decode cL_law 1687 = .ok (.iadd, 1) := by decide +kernel
theorem dL_law_1688 : decode cL_law 1688 = .ok (.iaload, 1) := by decide +kernel
theorem dL_law_1689 : decode cL_law 1689 = .ok (.aload_n 0, 1) := by decide +kernel
theorem dL_law_1690 : decode cL_law 1690 = .ok (.iload 4, 2) := by decide +kernel
theorem dL_law_1692 : decode cL_law 1692 = .ok (.iconst 3, 1) := by decide +kernel
theorem dL_law_1693 : decode cL_law 1693 = .ok (.iadd, 1) := by decide +kernel
theorem dL_law_1694 : decode cL_law 1694 = .ok (.iaload, 1) := by decide +kernel
theorem dL_law_1695 : decode cL_law 1695 = .ok (.invokevirtual 188, 3) := by decide +kernel
theorem dL_law_1698 : decode cL_law 1698 = .ok (.lstore 6, 2) := by decide +kernel
theorem dL_law_1700 : decode cL_law 1700 = .ok (.aload_n 2, 1) := by decide +kernel
theorem dL_law_1701 : decode cL_law 1701 = .ok (.invokevirtual 105, 3) := by decide +kernel
theorem dL_law_1704 : decode cL_law 1704 = .ok (.iload 5, 2) := by decide +kernel
theorem dL_law_1706 : decode cL_law 1706 = .ok (.if_icmp .eq 5, 3) := by decide +kernel
theorem dL_law_1709 : decode cL_law 1709 = .ok (.iconst 0, 1) := by decide +kernel
theorem dL_law_1710 : decode cL_law 1710 = .ok (.ireturn, 1) := by decide +kernel
theorem dL_law_1711 : decode cL_law 1711 = .ok (.iload 5, 2) := by decide +kernel
theorem dL_law_1713 : decode cL_law 1713 = .ok (.ifCond .ne 14, 3) := by decide +kernel
theorem dL_law_1716 : decode cL_law 1716 = .ok (.aload_n 3, 1) := by decide +kernel
theorem dL_law_1717 : decode cL_law 1717 = .ok (.iconst 0, 1) := by decide +kernel
theorem dL_law_1718 : decode cL_law 1718 = .ok (.laload, 1) := by decide +kernel
theorem dL_law_1719 : decode cL_law 1719 = .ok (.lload 6, 2) := by decide +kernel
theorem dL_law_1721 : decode cL_law 1721 = .ok (.lcmp, 1) := by decide +kernel
theorem dL_law_1722 : decode cL_law 1722 = .ok (.ifCond .eq 5, 3) := by decide +kernel
theorem dL_law_1725 : decode cL_law 1725 = .ok (.iconst 0, 1) := by decide +kernel
theorem dL_law_1726 : decode cL_law 1726 = .ok (.ireturn, 1) := by decide +kernel
theorem dL_law_1727 : decode cL_law 1727 = .ok (.goto 70, 3) := by decide +kernel
theorem dL_law_1730 : decode cL_law 1730 = .ok (.aload_n 1, 1) := by decide +kernel
theorem dL_law_1731 : decode cL_law 1731 = .ok (.aload_n 0, 1) := by decide +kernel
theorem dL_law_1732 : decode cL_law 1732 = .ok (.iload 4, 2) := by decide +kernel
theorem dL_law_1734 : decode cL_law 1734 = .ok (.iconst 1, 1) := by decide +kernel
theorem dL_law_1735 : decode cL_law 1735 = .ok (.iadd, 1) := by decide +kernel
theorem dL_law_1736 : decode cL_law 1736 = .ok (.iaload, 1) := by decide +kernel
theorem dL_law_1737 : decode cL_law 1737 = .ok (.aload_n 0, 1) := by decide +kernel
theorem dL_law_1738 : decode cL_law 1738 = .ok (.iload 4, 2) := by decide +kernel
theorem dL_law_1740 : decode cL_law 1740 = .ok (.iconst 2, 1) := by decide +kernel
theorem dL_law_1741 : decode cL_law 1741 = .ok (.iadd, 1) := by decide +kernel
theorem dL_law_1742 : decode cL_law 1742 = .ok (.iaload, 1) := by decide +kernel
theorem dL_law_1743 : decode cL_law 1743 = .ok (.aload_n 3, 1) := by decide +kernel
theorem dL_law_1744 : decode cL_law 1744 = .ok (.invokestatic 189, 3) := by decide +kernel
theorem dL_law_1747 : decode cL_law 1747 = .ok (.istore 5, 2) := by decide +kernel
theorem dL_law_1749 : decode cL_law 1749 = .ok (.aload_n 2, 1) := by decide +kernel
theorem dL_law_1750 : decode cL_law 1750 = .ok (.aload_n 0, 1) := by decide +kernel
theorem dL_law_1751 : decode cL_law 1751 = .ok (.iload 4, 2) := by decide +kernel
theorem dL_law_1753 : decode cL_law 1753 = .ok (.iconst 1, 1) := by decide +kernel
theorem dL_law_1754 : decode cL_law 1754 = .ok (.iadd, 1) := by decide +kernel
theorem dL_law_1755 : decode cL_law 1755 = .ok (.iaload, 1) := by decide +kernel
theorem dL_law_1756 : decode cL_law 1756 = .ok (.aload_n 0, 1) := by decide +kernel
theorem dL_law_1757 : decode cL_law 1757 = .ok (.iload 4, 2) := by decide +kernel
theorem dL_law_1759 : decode cL_law 1759 = .ok (.iconst 2, 1) := by decide +kernel
theorem dL_law_1760 : decode cL_law 1760 = .ok (.iadd, 1) := by decide +kernel
theorem dL_law_1761 : decode cL_law 1761 = .ok (.iaload, 1) := by decide +kernel
theorem dL_law_1762 : decode cL_law 1762 = .ok (.invokevirtual 191, 3) := by decide +kernel
theorem dL_law_1765 : decode cL_law 1765 = .ok (.lstore 6, 2) := by decide +kernel
theorem dL_law_1767 : decode cL_law 1767 = .ok (.aload_n 2, 1) := by decide +kernel
theorem dL_law_1768 : decode cL_law 1768 = .ok (.invokevirtual 105, 3) := by decide +kernel
theorem dL_law_1771 : decode cL_law 1771 = .ok (.iload 5, 2) := by decide +kernel
theorem dL_law_1773 : decode cL_law 1773 = .ok (.if_icmp .eq 5, 3) := by decide +kernel
theorem dL_law_1776 : decode cL_law 1776 = .ok (.iconst 0, 1) := by decide +kernel
theorem dL_law_1777 : decode cL_law 1777 = .ok (.ireturn, 1) := by decide +kernel
theorem dL_law_1778 : decode cL_law 1778 = .ok (.iload 5, 2) := by decide +kernel
theorem dL_law_1780 : decode cL_law 1780 = .ok (.ifCond .ne 14, 3) := by decide +kernel
theorem dL_law_1783 : decode cL_law 1783 = .ok (.aload_n 3, 1) := by decide +kernel
theorem dL_law_1784 : decode cL_law 1784 = .ok (.iconst 0, 1) := by decide +kernel
theorem dL_law_1785 : decode cL_law 1785 = .ok (.laload, 1) := by decide +kernel
theorem dL_law_1786 : decode cL_law 1786 = .ok (.lload 6, 2) := by decide +kernel
theorem dL_law_1788 : decode cL_law 1788 = .ok (.lcmp, 1) := by decide +kernel
theorem dL_law_1789 : decode cL_law 1789 = .ok (.ifCond .eq 5, 3) := by decide +kernel
theorem dL_law_1792 : decode cL_law 1792 = .ok (.iconst 0, 1) := by decide +kernel
theorem dL_law_1793 : decode cL_law 1793 = .ok (.ireturn, 1) := by decide +kernel
theorem dL_law_1794 : decode cL_law 1794 = .ok (.goto 3, 3) := by decide +kernel
theorem dL_law_1797 : decode cL_law 1797 = .ok (.iinc 4 4, 3) := by decide +kernel
theorem dL_law_1800 : decode cL_law 1800 = .ok (.goto (-1777), 3) := by decide +kernel
theorem dL_law_1803 : decode cL_law 1803 = .ok (.iconst 1, 1) := by decide +kernel
theorem dL_law_1804 : decode cL_law 1804 = .ok (.ireturn, 1) := by decide +kernel
end
section
/-! ===== THE LAYER: heaps as partial functions over the kit's worlds; one judgement V over them ===== -/
abbrev zH : Type := Nat → Option va_E
def zup (h : zH) (a : Nat) (e : va_E) : zH := fun b => if b = a then some e else h b
theorem zup_self (h : zH) (a : Nat) (e : va_E) : zup h a e a = some e := if_pos rfl
theorem zup_ne (h : zH) {a b : Nat} (e : va_E) (hb : b ≠ a) : zup h a e b = h b := if_neg hb
abbrev zG : Type := va_G × (Nat → ClassId) × Nat × (Nat → Nat) × (Nat → Nat)
abbrev gD (G : zG) : va_G := G.1
abbrev gc (G : zG) : Nat → ClassId := G.2.1
abbrev gN (G : zG) : Nat := G.2.2.1
abbrev gs (G : zG) : Nat → Nat := G.2.2.2.1
abbrev gb (G : zG) : Nat → Nat := G.2.2.2.2
abbrev zCl : List vw_C := [(RJ0, TJ0, 4), (RJ4, TJ4, 4), (RJx4a65c, TJx4a65c, 3), (RX0, TX0, 4), (RX1, TX1, 8), (RX2, TX2, 9), (RX3, TX3, 4), (RX4, TX4, 5), (RX5, TX5, 30)]
abbrev zTy (ca : Nat → ClassId) : List (ClassId × FieldType) := [(ca 0, .int), (ca 1, .long), (ca 2, .byte), (ca 3, .char), (ca 4, .boolean), (ca 5, .object "java/lang/Object"), (ca 6, .object RX1), (ca 7, .array .long)]
def zA (G : zG) : Nat → Prop := fun q => gN G ≤ q
/-- the texts of the constants that are used as texts: the pool's place, the letters -/
abbrev zCon : List (Nat × List Nat) := [(71, [65]), (92, []), (111, [84]), (173, [109, 105, 110]), (175, [109, 97, 120]), (180, [32, 43, 32]), (182, [32, 45, 32]), (184, [44, 32]), (186, [37, 32, 111, 102, 32]), (188, [121, 101, 97, 114, 40])]
abbrev zStrW : List (Nat × String) := [(39, "no such account or quarter"), (52, "the amount is out of its range"), (58, "no such account"), (66, "the stack is full"), (71, "A"), (84, "the number is out of its range"), (92, ""), (97, "no such term"), (109, "the stack is full, or the term's level is the highest"), (111, "T"), (117, "no such kind"), (123, "fewer than two formulas, or one of the highest level"), (173, "min"), (175, "max"), (180, " + "), (182, " - "), (184, ", "), (139, "the percents are out of their range"), (141, "no formula, or one of the highest level"), (186, "% of "), (188, "year("), (190, "no formula, or too many terms"), (195, "no such term or quarter"), (201, "no formula, or one that the term can't have"), (219, "no such character"), (278, "too many tests"), (288, "no such test or quarter"), (290, "the limit is out of its range"), (299, "no such test or account"), (301, "the least amount is out of its range"), (309, "the money is out of its range"), (318, "a cure in that quarter, or too many about it"), (338, "no limit, or a bottom that is not above 0"), (355, "the fixed amount or the percents are out of range"), (357, "too many baskets"), (367, "no such basket or quarter"), (377, "more than the basket's size"), (379, "no such basket"), (381, "less is used of the basket")]
/-- what is known of classes and constants, whatever the heap -/
def zK (G : zG) (U : State) : Prop := va_K (gD G) zCl (zTy (gc G)) U ∧ ∀ q ∈ zStrW, vk_R RX4 q.1 q.2 (gs G q.1) U
/-- static fields and constant texts: what they hold -/
def zZ (G : zG) (U : State) (H : Heap) : Prop :=
  (va_Z "java/lang/String" "COMPACT_STRINGS" "Z" (.int 1) (zA G) U H ∧ va_Z "java/util/ArrayList" "DEFAULTCAPACITY_EMPTY_ELEMENTDATA" "[Ljava/lang/Object;" (.ref (gs G 0)) (zA G) U H ∧ va_T (.object "java/lang/Object") (gs G 0) 0 (fun _ => .null) (zA G) U H ∧
  va_Z "java/lang/Integer" "DigitOnes" "[B" (.ref (gs G 1)) (zA G) U H ∧ va_T .byte (gs G 1) 100 (fun j => .int (nI (48 + j % 10))) (zA G) U H ∧ va_Z "java/lang/Integer" "DigitTens" "[B" (.ref (gs G 2)) (zA G) U H ∧ va_T .byte (gs G 2) 100 (fun j => .int (nI (48 + j / 10))) (zA G) U H) ∧
  (va_Zq "jdk/internal/util/Preconditions" "SIOOBE_FORMATTER" "Ljava/util/function/BiFunction;" (zA G) U H ∧ vx_Zq Bundle.tN "UNASSIGNED_STACK" Bundle.steD (zA G) U H ∧ vx_Zq Bundle.tN "SUPPRESSED_SENTINEL" Bundle.listD (zA G) U H) ∧
  ∀ q ∈ zCon, va_O "java/lang/String" (gs G q.1) (zA G) U H ∧ va_OF "java/lang/String" "coder" "B" (.int 0) (gs G q.1) (zA G) U H ∧ va_OF "java/lang/String" "value" "[B" (.ref (gb G q.1)) (gs G q.1) (zA G) U H ∧ va_T .byte (gb G q.1) q.2.length (fun j => .int (nI (q.2.getD j 0))) (zA G) U H
theorem zZ.moved {G : zG} {u U : State} {H : Heap} (hvm : u.vm.Alike U.vm) (h : zZ G u H) : zZ G U H := by
  obtain ⟨⟨a1, a2, a3, a4, a5, a6, a7⟩, ⟨b1, b2, b3⟩, k⟩ := h
  exact ⟨⟨a1.moved hvm, a2.moved hvm, a3.moved hvm, a4.moved hvm, a5.moved hvm, a6.moved hvm, a7.moved hvm⟩, ⟨b1.moved hvm, b2.moved hvm, b3.moved hvm⟩, fun q hq => ⟨(k q hq).1.moved hvm, (k q hq).2.1.moved hvm, (k q hq).2.2.1.moved hvm, (k q hq).2.2.2.moved hvm⟩⟩
theorem zZ.kept {G : zG} {U : State} {H H1 : Heap} (h : zZ G U H) (hq : ∀ a : Nat, a < H.size → ¬ zA G a → H1[a]? = H[a]?) : zZ G U H1 := by
  obtain ⟨⟨a1, a2, a3, a4, a5, a6, a7⟩, ⟨b1, b2, b3⟩, k⟩ := h
  exact ⟨⟨a1.kept hq, a2.kept hq, a3.kept hq, a4.kept hq, a5.kept hq, a6.kept hq, a7.kept hq⟩, ⟨b1.kept hq, b2.kept hq, b3.kept hq⟩, fun q hq' => ⟨(k q hq').1.kept hq, (k q hq').2.1.kept hq, (k q hq').2.2.1.kept hq, (k q hq').2.2.2.kept hq⟩⟩
theorem zK.moved {G : zG} {u U : State} (hvm : u.WarmedH U.vm) (h : zK G u) : zK G U := ⟨h.1.moved hvm.alike, fun q hq => vk_R.warm hvm (h.2 q hq)⟩
/-- the world: the known cells from gN on, apart, in the heap -/
def zPw (G : zG) (h : zH) (H : Heap) : Prop := gN G ≤ H.size ∧ ∃ (L : List Nat) (f : Nat → va_E), va_P (gD G) zCl (va_pl L f) H ∧ va_D (zA G) (va_pl L f) ∧ ∀ a e, h a = some e → a ∈ L ∧ f a = e
theorem zPw.get {G : zG} {h : zH} {H : Heap} (hP : zPw G h H) {a : Nat} {e : va_E} (ha : h a = some e) : va_at (gD G) zCl (a, e) H := by
  obtain ⟨-, L, f, p, -, k⟩ := hP
  obtain ⟨h1, h2⟩ := k a e ha
  obtain ⟨i, hi⟩ := va_pl_get (X := []) (f := f) h1
  have h3 := p i (a, f a) hi
  rw [h2] at h3
  exact h3
theorem zPw.one {G : zG} {h : zH} {H : Heap} (hP : zPw G h H) {a : Nat} {e : va_E} (ha : h a = some e) : va_P (gD G) zCl [(a, e)] H := fun k q hk => by
  have h0 : k < 1 := (List.getElem?_eq_some_iff.mp hk).1
  rw [show k = 0 by omega] at hk
  cases hk
  exact hP.get ha
theorem zPw.ge {G : zG} {h : zH} {H : Heap} (hP : zPw G h H) {a : Nat} {e : va_E} (ha : h a = some e) : gN G ≤ a := by
  obtain ⟨-, L, f, p, d, k⟩ := hP
  obtain ⟨h1, h2⟩ := k a e ha
  obtain ⟨i, hi⟩ := va_pl_get (X := []) (f := f) h1
  exact d.2 i _ hi
theorem zPw.lt {G : zG} {h : zH} {H : Heap} (hP : zPw G h H) {a : Nat} {e : va_E} (ha : h a = some e) : a < H.size := (hP.get ha).lt
/-- a cell is rewritten -/
theorem zPw.put {G : zG} {h : zH} {H : Heap} (hP : zPw G h H) {a : Nat} {e e' : va_E} (ha : h a = some e) {M : Prop}
    (kk : ∀ (ws : va_W) (q0 : Nat), va_P (gD G) zCl ws H → va_D (zA G) ws → ws[q0]? = some (a, e) → (∀ H1 : Heap, gN G ≤ H1.size → va_P (gD G) zCl (ws.set q0 (a, e')) H1 → va_D (zA G) (ws.set q0 (a, e')) → zPw G (zup h a e') H1) → M) : M := by
  obtain ⟨n0, L, f, p, d, k⟩ := id hP
  obtain ⟨h1, h2⟩ := k a e ha
  obtain ⟨i, hi⟩ := va_pl_get (X := []) (f := f) h1
  have hi' : (va_pl L f)[i]? = some (a, f a) := hi
  refine kk (va_pl L f) i p d (by rw [hi', h2]) (fun H1 hz p1 d1 => ?_)
  have es : (va_pl L f).set i (a, e') = va_pl L (va_up f a e') := va_pl_set (X := []) d h1 hi
  rw [es] at p1 d1
  refine ⟨hz, L, va_up f a e', p1, d1, fun b x hb => ?_⟩
  by_cases hba : b = a
  · subst hba
    rw [zup_self] at hb
    cases hb
    exact ⟨h1, va_up_self _ _ _⟩
  · rw [zup_ne _ _ hba] at hb
    rw [va_up_ne _ _ hba]
    exact k b x hb
/-- .. with the place of a second known cell -/
theorem zPw.put2 {G : zG} {h : zH} {H : Heap} (hP : zPw G h H) {a b : Nat} {e e' x : va_E} (ha : h a = some e) (hb : h b = some x) {M : Prop}
    (kk : ∀ (ws : va_W) (q0 q1 : Nat), va_P (gD G) zCl ws H → va_D (zA G) ws → ws[q0]? = some (a, e) → ws[q1]? = some (b, x) → (∀ H1 : Heap, gN G ≤ H1.size → va_P (gD G) zCl (ws.set q0 (a, e')) H1 → va_D (zA G) (ws.set q0 (a, e')) → zPw G (zup h a e') H1) → M) : M := by
  obtain ⟨n0, L, f, p, d, k⟩ := id hP
  obtain ⟨h1, h2⟩ := k a e ha
  obtain ⟨h3, h4⟩ := k b x hb
  obtain ⟨i, hi⟩ := va_pl_get (X := []) (f := f) h1
  obtain ⟨j, hj⟩ := va_pl_get (X := []) (f := f) h3
  have hi' : (va_pl L f)[i]? = some (a, f a) := hi
  have hj' : (va_pl L f)[j]? = some (b, f b) := hj
  refine kk (va_pl L f) i j p d (by rw [hi', h2]) (by rw [hj', h4]) (fun H1 hz p1 d1 => ?_)
  have es : (va_pl L f).set i (a, e') = va_pl L (va_up f a e') := va_pl_set (X := []) d h1 hi
  rw [es] at p1 d1
  refine ⟨hz, L, va_up f a e', p1, d1, fun b x hb => ?_⟩
  by_cases hba : b = a
  · subst hba
    rw [zup_self] at hb
    cases hb
    exact ⟨h1, va_up_self _ _ _⟩
  · rw [zup_ne _ _ hba] at hb
    rw [va_up_ne _ _ hba]
    exact k b x hb
/-- a new cell -/
theorem zPw.new {G : zG} {h : zH} {H : Heap} (hP : zPw G h H) {M : Prop}
    (kk : ∀ ws : va_W, va_P (gD G) zCl ws H → va_D (zA G) ws → (∀ (q : Nat) (e : va_E) (H1 : Heap), gN G ≤ H1.size → va_P (gD G) zCl (ws ++ [(q, e)]) H1 → va_D (zA G) (ws ++ [(q, e)]) → gN G ≤ q ∧ h q = none ∧ zPw G (zup h q e) H1) → M) : M := by
  obtain ⟨n0, L, f, p, d, k⟩ := id hP
  refine kk (va_pl L f) p d (fun q e H1 hz p1 d1 => ?_)
  have hnew : q ∉ L := fun hq => by
    obtain ⟨i, hi⟩ := va_pl_get (X := []) (f := f) hq
    have hi' : (va_pl L f)[i]? = some (q, f q) := hi
    have hl := (List.getElem?_eq_some_iff.mp hi').1
    have := d1.1 i (va_pl L f).length (q, f q) (q, e) (by rw [List.getElem?_append_left hl]; exact hi') (by rw [List.getElem?_append_right (Nat.le_refl _), Nat.sub_self]; rfl) rfl
    omega
  have hge : gN G ≤ q := d1.2 (va_pl L f).length (q, e) (by rw [List.getElem?_append_right (Nat.le_refl _), Nat.sub_self]; rfl)
  refine ⟨hge, ?_, hz, L ++ [q], va_up f q e, by rw [← va_pl_push hnew]; exact p1, by rw [← va_pl_push hnew]; exact d1, fun b x hb => ?_⟩
  · cases hq : h q with
    | none => rfl
    | some x => exact absurd (k q x hq).1 hnew
  · by_cases hbq : b = q
    · subst hbq
      rw [zup_self] at hb
      cases hb
      exact ⟨List.mem_append_right _ List.mem_cons_self, va_up_self _ _ _⟩
    · rw [zup_ne _ _ hbq] at hb
      rw [va_up_ne _ _ hbq]
      exact ⟨List.mem_append_left _ (k b x hb).1, (k b x hb).2⟩
/-- fewer known cells -/
theorem zPw.less {G : zG} {h h' : zH} {H : Heap} (hP : zPw G h H) (hl : ∀ a e, h' a = some e → h a = some e) : zPw G h' H := by
  obtain ⟨n0, L, f, p, d, k⟩ := hP
  exact ⟨n0, L, f, p, d, fun a e ha => k a e (hl a e ha)⟩
theorem zPw.kept {G : zG} {h : zH} {H H1 : Heap} (hP : zPw G h H) (hz : H.size ≤ H1.size) (hq : ∀ q : Nat, q < H.size → H1[q]? = H[q]?) : zPw G h H1 := by
  obtain ⟨n0, L, f, p, d, k⟩ := hP
  exact ⟨Nat.le_trans n0 hz, L, f, p.kept (fun i q hi => hq q.1 (p i q hi).lt), d, k⟩
/-- the tables' words that hold in every state that the machine comes to -/
def zT : List Cond := lw_tbl.filter goodWord
theorem zT_in : GoodIn zT zT := fun w hw => ⟨hw, good_of_word (List.mem_filter.mp hw).2⟩
theorem zT_of {w : Cond} (i : Nat) (h : lw_tbl[i]? = some w) (hg : goodWord w = true) : w ∈ zT := List.mem_filter.mpr ⟨List.mem_of_getElem? h, hg⟩
end
section
/-! ROWS: one instruction each, over V -/
def zOK (p : Program) (l : Launch) (e : Env) (R : Room) (s : State) (m : MethodId) (args : Array Value) (below : List Frame) (meth : Method) (c : Code) (G : zG) (cc : ByteArray) (nL : Nat) (own : String) : Prop :=
  p.tables.exec = Jvm.exec ∧ c.code = cc ∧ c.maxLocals = nL ∧ s.vm.findClass own = some m.cls ∧ (∀ w ∈ zT, w.before args s = true) ∧ zK G s ∧ zZ G s s.heap ∧ gN G ≤ s.heap.size ∧ meth.locks = false ∧ l.stackTraces = false
/-- from every heap that holds the known cells h: the machine at pc comes to Q -/
def V (p : Program) (l : Launch) (e : Env) (R : Room) (s : State) (m : MethodId) (args : Array Value) (below : List Frame) (meth : Method) (c : Code) (G : zG) (nL : Nat) (Q : State → Prop) (h : zH) (cs sl pc : Nat) (lv : List (Nat × Value)) (st : List Value) : Prop :=
  ∀ (H : Heap) (locs : List Loc) (ls : Array Slot), zPw G h H → va_S (zA G) s.heap H locs → lv_has ls nL lv → W p l e R s m args below meth c H locs cs sl Q (F0 m pc ls st)
section ZR
variable {p : Program} {l : Launch} {e : Env} {R : Room} {s : State} {m : MethodId} {args : Array Value} {below : List Frame} {meth : Method} {c : Code} {G : zG} {cc : ByteArray} {nL : Nat} {own : String} {Q : State → Prop} {h : zH} {cs sl pc : Nat} {lv : List (Nat × Value)} {st : List Value}
theorem v_topi {x : Int32} (k : ∀ y : Int32, y = x → V p l e R s m args below meth c G nL Q h cs sl pc lv (.int y :: st)) : V p l e R s m args below meth c G nL Q h cs sl pc lv (.int x :: st) := k x rfl
theorem v_topl {x : Int64} (k : ∀ y : Int64, y = x → V p l e R s m args below meth c G nL Q h cs sl pc lv (.long y :: st)) : V p l e R s m args below meth c G nL Q h cs sl pc lv (.long x :: st) := k x rfl
theorem v_world {h' : zH} (hl : ∀ a e, h' a = some e → h a = some e) (k : V p l e R s m args below meth c G nL Q h' cs sl pc lv st) : V p l e R s m args below meth c G nL Q h cs sl pc lv st := fun H locs ls hP hS hL => k H locs ls (hP.less hl) hS hL
theorem v_lv {lv2 : List (Nat × Value)} (hl : ∀ q ∈ lv2, q ∈ lv) (k : V p l e R s m args below meth c G nL Q h cs sl pc lv2 st) : V p l e R s m args below meth c G nL Q h cs sl pc lv st := fun H locs ls hP hS hL => k H locs ls hP hS ⟨hL.1, hL.2.1, fun q hq => hL.2.2 q (hl q hq)⟩
theorem v_widen {c2 s2 : Nat} (h1 : cs ≤ c2) (h2 : sl ≤ s2) (k : V p l e R s m args below meth c G nL Q h c2 s2 pc lv st) : V p l e R s m args below meth c G nL Q h cs sl pc lv st := fun H locs ls hP hS hL => W.widen h1 h2 (k H locs ls hP hS hL)
theorem v_iconst (C : zOK p l e R s m args below meth c G cc nL own) {n : Int} {v : Int32} (hdg : decode cc pc = .ok (.iconst n, 1)) (hv : Int32.ofInt n = v) (k : V p l e R s m args below meth c G nL Q h cs sl (pc + 1) lv (.int v :: st)) : V p l e R s m args below meth c G nL Q h cs sl pc lv (st) := fun H locs ls hP hS hL => lv_iconst C.1 C.2.1 hdg hv (k H locs ls hP hS hL)
theorem v_bipush (C : zOK p l e R s m args below meth c G cc nL own) {n : Int} {v : Int32} (hdg : decode cc pc = .ok (.bipush n, 2)) (hv : (Int8.ofInt n).toInt32 = v) (k : V p l e R s m args below meth c G nL Q h cs sl (pc + 2) lv (.int v :: st)) : V p l e R s m args below meth c G nL Q h cs sl pc lv (st) := fun H locs ls hP hS hL => lv_bipush C.1 C.2.1 hdg hv (k H locs ls hP hS hL)
theorem v_sipush (C : zOK p l e R s m args below meth c G cc nL own) {n : Int} {v : Int32} (hdg : decode cc pc = .ok (.sipush n, 3)) (hv : (Int16.ofInt n).toInt32 = v) (k : V p l e R s m args below meth c G nL Q h cs sl (pc + 3) lv (.int v :: st)) : V p l e R s m args below meth c G nL Q h cs sl pc lv (st) := fun H locs ls hP hS hL => lv_sipush C.1 C.2.1 hdg hv (k H locs ls hP hS hL)
theorem v_lconst (C : zOK p l e R s m args below meth c G cc nL own) {n : Fin 2} {v : Int64} (hdg : decode cc pc = .ok (.lconst n, 1)) (hv : Int64.ofNat (n : Nat) = v) (k : V p l e R s m args below meth c G nL Q h cs sl (pc + 1) lv (.long v :: st)) : V p l e R s m args below meth c G nL Q h cs sl pc lv (st) := fun H locs ls hP hS hL => lv_lconst C.1 C.2.1 hdg hv (k H locs ls hP hS hL)
theorem v_iadd (C : zOK p l e R s m args below meth c G cc nL own) {x y : Int32} (hdg : decode cc pc = .ok (.iadd, 1)) (k : V p l e R s m args below meth c G nL Q h cs sl (pc + 1) lv (.int (x + y) :: st)) : V p l e R s m args below meth c G nL Q h cs sl pc lv (.int y :: .int x :: st) := fun H locs ls hP hS hL => lv_iadd C.1 C.2.1 hdg (k H locs ls hP hS hL)
theorem v_isub (C : zOK p l e R s m args below meth c G cc nL own) {x y : Int32} (hdg : decode cc pc = .ok (.isub, 1)) (k : V p l e R s m args below meth c G nL Q h cs sl (pc + 1) lv (.int (x - y) :: st)) : V p l e R s m args below meth c G nL Q h cs sl pc lv (.int y :: .int x :: st) := fun H locs ls hP hS hL => lv_isub C.1 C.2.1 hdg (k H locs ls hP hS hL)
theorem v_imul (C : zOK p l e R s m args below meth c G cc nL own) {x y : Int32} (hdg : decode cc pc = .ok (.imul, 1)) (k : V p l e R s m args below meth c G nL Q h cs sl (pc + 1) lv (.int (x * y) :: st)) : V p l e R s m args below meth c G nL Q h cs sl pc lv (.int y :: .int x :: st) := fun H locs ls hP hS hL => lv_imul C.1 C.2.1 hdg (k H locs ls hP hS hL)
theorem v_idiv (C : zOK p l e R s m args below meth c G cc nL own) {x y : Int32} (hdg : decode cc pc = .ok (.idiv, 1)) (hne : ¬ y = 0) (k : V p l e R s m args below meth c G nL Q h cs sl (pc + 1) lv (.int (x / y) :: st)) : V p l e R s m args below meth c G nL Q h cs sl pc lv (.int y :: .int x :: st) := fun H locs ls hP hS hL => lv_idiv C.1 C.2.1 hdg hne (k H locs ls hP hS hL)
theorem v_irem (C : zOK p l e R s m args below meth c G cc nL own) {x y : Int32} (hdg : decode cc pc = .ok (.irem, 1)) (hne : ¬ y = 0) (k : V p l e R s m args below meth c G nL Q h cs sl (pc + 1) lv (.int (x - x / y * y) :: st)) : V p l e R s m args below meth c G nL Q h cs sl pc lv (.int y :: .int x :: st) := fun H locs ls hP hS hL => lv_irem C.1 C.2.1 hdg hne (k H locs ls hP hS hL)
theorem v_ineg (C : zOK p l e R s m args below meth c G cc nL own) {x : Int32} (hdg : decode cc pc = .ok (.ineg, 1)) (k : V p l e R s m args below meth c G nL Q h cs sl (pc + 1) lv (.int (-x) :: st)) : V p l e R s m args below meth c G nL Q h cs sl pc lv (.int x :: st) := fun H locs ls hP hS hL => lv_ineg C.1 C.2.1 hdg (k H locs ls hP hS hL)
theorem v_ladd (C : zOK p l e R s m args below meth c G cc nL own) {x y : Int64} (hdg : decode cc pc = .ok (.ladd, 1)) (k : V p l e R s m args below meth c G nL Q h cs sl (pc + 1) lv (.long (x + y) :: st)) : V p l e R s m args below meth c G nL Q h cs sl pc lv (.long y :: .long x :: st) := fun H locs ls hP hS hL => lv_ladd C.1 C.2.1 hdg (k H locs ls hP hS hL)
theorem v_lsub (C : zOK p l e R s m args below meth c G cc nL own) {x y : Int64} (hdg : decode cc pc = .ok (.lsub, 1)) (k : V p l e R s m args below meth c G nL Q h cs sl (pc + 1) lv (.long (x - y) :: st)) : V p l e R s m args below meth c G nL Q h cs sl pc lv (.long y :: .long x :: st) := fun H locs ls hP hS hL => lv_lsub C.1 C.2.1 hdg (k H locs ls hP hS hL)
theorem v_lmul (C : zOK p l e R s m args below meth c G cc nL own) {x y : Int64} (hdg : decode cc pc = .ok (.lmul, 1)) (k : V p l e R s m args below meth c G nL Q h cs sl (pc + 1) lv (.long (x * y) :: st)) : V p l e R s m args below meth c G nL Q h cs sl pc lv (.long y :: .long x :: st) := fun H locs ls hP hS hL => lv_lmul C.1 C.2.1 hdg (k H locs ls hP hS hL)
theorem v_ldiv (C : zOK p l e R s m args below meth c G cc nL own) {x y : Int64} (hdg : decode cc pc = .ok (.ldiv, 1)) (hne : ¬ y = 0) (k : V p l e R s m args below meth c G nL Q h cs sl (pc + 1) lv (.long (x / y) :: st)) : V p l e R s m args below meth c G nL Q h cs sl pc lv (.long y :: .long x :: st) := fun H locs ls hP hS hL => lv_ldiv C.1 C.2.1 hdg hne (k H locs ls hP hS hL)
theorem v_lrem (C : zOK p l e R s m args below meth c G cc nL own) {x y : Int64} (hdg : decode cc pc = .ok (.lrem, 1)) (hne : ¬ y = 0) (k : V p l e R s m args below meth c G nL Q h cs sl (pc + 1) lv (.long (x - x / y * y) :: st)) : V p l e R s m args below meth c G nL Q h cs sl pc lv (.long y :: .long x :: st) := fun H locs ls hP hS hL => lv_lrem C.1 C.2.1 hdg hne (k H locs ls hP hS hL)
theorem v_lneg (C : zOK p l e R s m args below meth c G cc nL own) {x : Int64} (hdg : decode cc pc = .ok (.lneg, 1)) (k : V p l e R s m args below meth c G nL Q h cs sl (pc + 1) lv (.long (-x) :: st)) : V p l e R s m args below meth c G nL Q h cs sl pc lv (.long x :: st) := fun H locs ls hP hS hL => lv_lneg C.1 C.2.1 hdg (k H locs ls hP hS hL)
theorem v_land (C : zOK p l e R s m args below meth c G cc nL own) {x y : Int64} (hdg : decode cc pc = .ok (.land, 1)) (k : V p l e R s m args below meth c G nL Q h cs sl (pc + 1) lv (.long (x &&& y) :: st)) : V p l e R s m args below meth c G nL Q h cs sl pc lv (.long y :: .long x :: st) := fun H locs ls hP hS hL => lv_land C.1 C.2.1 hdg (k H locs ls hP hS hL)
theorem v_lxor (C : zOK p l e R s m args below meth c G cc nL own) {x y : Int64} (hdg : decode cc pc = .ok (.lxor, 1)) (k : V p l e R s m args below meth c G nL Q h cs sl (pc + 1) lv (.long (x ^^^ y) :: st)) : V p l e R s m args below meth c G nL Q h cs sl pc lv (.long y :: .long x :: st) := fun H locs ls hP hS hL => lv_lxor C.1 C.2.1 hdg (k H locs ls hP hS hL)
theorem v_iand (C : zOK p l e R s m args below meth c G cc nL own) {x y : Int32} (hdg : decode cc pc = .ok (.iand, 1)) (k : V p l e R s m args below meth c G nL Q h cs sl (pc + 1) lv (.int (x &&& y) :: st)) : V p l e R s m args below meth c G nL Q h cs sl pc lv (.int y :: .int x :: st) := fun H locs ls hP hS hL => lv_iand C.1 C.2.1 hdg (k H locs ls hP hS hL)
theorem v_ior (C : zOK p l e R s m args below meth c G cc nL own) {x y : Int32} (hdg : decode cc pc = .ok (.ior, 1)) (k : V p l e R s m args below meth c G nL Q h cs sl (pc + 1) lv (.int (x ||| y) :: st)) : V p l e R s m args below meth c G nL Q h cs sl pc lv (.int y :: .int x :: st) := fun H locs ls hP hS hL => lv_ior C.1 C.2.1 hdg (k H locs ls hP hS hL)
theorem v_ixor (C : zOK p l e R s m args below meth c G cc nL own) {x y : Int32} (hdg : decode cc pc = .ok (.ixor, 1)) (k : V p l e R s m args below meth c G nL Q h cs sl (pc + 1) lv (.int (x ^^^ y) :: st)) : V p l e R s m args below meth c G nL Q h cs sl pc lv (.int y :: .int x :: st) := fun H locs ls hP hS hL => lv_ixor C.1 C.2.1 hdg (k H locs ls hP hS hL)
theorem v_ishl (C : zOK p l e R s m args below meth c G cc nL own) {x y : Int32} (hdg : decode cc pc = .ok (.ishl, 1)) (k : V p l e R s m args below meth c G nL Q h cs sl (pc + 1) lv (.int (x <<< (y &&& 31)) :: st)) : V p l e R s m args below meth c G nL Q h cs sl pc lv (.int y :: .int x :: st) := fun H locs ls hP hS hL => lv_ishl C.1 C.2.1 hdg (k H locs ls hP hS hL)
theorem v_ishr (C : zOK p l e R s m args below meth c G cc nL own) {x y : Int32} (hdg : decode cc pc = .ok (.ishr, 1)) (k : V p l e R s m args below meth c G nL Q h cs sl (pc + 1) lv (.int (x >>> (y &&& 31)) :: st)) : V p l e R s m args below meth c G nL Q h cs sl pc lv (.int y :: .int x :: st) := fun H locs ls hP hS hL => lv_ishr C.1 C.2.1 hdg (k H locs ls hP hS hL)
theorem v_iushr (C : zOK p l e R s m args below meth c G cc nL own) {x y v : Int32} (hdg : decode cc pc = .ok (.iushr, 1)) (hv : (x.toUInt32 >>> (y.toUInt32 &&& Int32.toUInt32 31)).toInt32 = v) (k : V p l e R s m args below meth c G nL Q h cs sl (pc + 1) lv (.int v :: st)) : V p l e R s m args below meth c G nL Q h cs sl pc lv (.int y :: .int x :: st) := fun H locs ls hP hS hL => lv_iushr C.1 C.2.1 hdg hv (k H locs ls hP hS hL)
theorem v_i2l (C : zOK p l e R s m args below meth c G cc nL own) {x : Int32} {v : Int64} (hdg : decode cc pc = .ok (.i2l, 1)) (hv : x.toInt64 = v) (k : V p l e R s m args below meth c G nL Q h cs sl (pc + 1) lv (.long v :: st)) : V p l e R s m args below meth c G nL Q h cs sl pc lv (.int x :: st) := fun H locs ls hP hS hL => lv_i2l C.1 C.2.1 hdg hv (k H locs ls hP hS hL)
theorem v_l2i (C : zOK p l e R s m args below meth c G cc nL own) {x : Int64} {v : Int32} (hdg : decode cc pc = .ok (.l2i, 1)) (hv : x.toInt32 = v) (k : V p l e R s m args below meth c G nL Q h cs sl (pc + 1) lv (.int v :: st)) : V p l e R s m args below meth c G nL Q h cs sl pc lv (.long x :: st) := fun H locs ls hP hS hL => lv_l2i C.1 C.2.1 hdg hv (k H locs ls hP hS hL)
theorem v_i2b (C : zOK p l e R s m args below meth c G cc nL own) {x : Int32} {v : Int32} (hdg : decode cc pc = .ok (.i2b, 1)) (hv : x.toInt8.toInt32 = v) (k : V p l e R s m args below meth c G nL Q h cs sl (pc + 1) lv (.int v :: st)) : V p l e R s m args below meth c G nL Q h cs sl pc lv (.int x :: st) := fun H locs ls hP hS hL => lv_i2b C.1 C.2.1 hdg hv (k H locs ls hP hS hL)
theorem v_i2c (C : zOK p l e R s m args below meth c G cc nL own) {x : Int32} {v : Int32} (hdg : decode cc pc = .ok (.i2c, 1)) (hv : (x.toUInt32 % 65536).toInt32 = v) (k : V p l e R s m args below meth c G nL Q h cs sl (pc + 1) lv (.int v :: st)) : V p l e R s m args below meth c G nL Q h cs sl pc lv (.int x :: st) := fun H locs ls hP hS hL => lv_i2c C.1 C.2.1 hdg hv (k H locs ls hP hS hL)
theorem v_dup (C : zOK p l e R s m args below meth c G cc nL own) {va : Value} (hdg : decode cc pc = .ok (.dup, 1)) (hva : va.category = 1) (k : V p l e R s m args below meth c G nL Q h cs sl (pc + 1) lv (va :: va :: st)) : V p l e R s m args below meth c G nL Q h cs sl pc lv (va :: st) := fun H locs ls hP hS hL => lv_dup C.1 C.2.1 hdg hva (k H locs ls hP hS hL)
theorem v_pop (C : zOK p l e R s m args below meth c G cc nL own) {va : Value} (hdg : decode cc pc = .ok (.pop, 1)) (hva : va.category = 1) (k : V p l e R s m args below meth c G nL Q h cs sl (pc + 1) lv (st)) : V p l e R s m args below meth c G nL Q h cs sl pc lv (va :: st) := fun H locs ls hP hS hL => lv_pop C.1 C.2.1 hdg hva (k H locs ls hP hS hL)
theorem v_dup_x1 (C : zOK p l e R s m args below meth c G cc nL own) {va vb : Value} (hdg : decode cc pc = .ok (.dup_x1, 1)) (hva : va.category = 1) (hvb : vb.category = 1) (k : V p l e R s m args below meth c G nL Q h cs sl (pc + 1) lv (va :: vb :: va :: st)) : V p l e R s m args below meth c G nL Q h cs sl pc lv (va :: vb :: st) := fun H locs ls hP hS hL => lv_dup_x1 C.1 C.2.1 hdg hva hvb (k H locs ls hP hS hL)
theorem v_dup2_11 (C : zOK p l e R s m args below meth c G cc nL own) {va vb : Value} (hdg : decode cc pc = .ok (.dup2, 1)) (hva : va.category = 1) (hvb : vb.category = 1) (k : V p l e R s m args below meth c G nL Q h cs sl (pc + 1) lv (va :: vb :: va :: vb :: st)) : V p l e R s m args below meth c G nL Q h cs sl pc lv (va :: vb :: st) := fun H locs ls hP hS hL => lv_dup2_11 C.1 C.2.1 hdg hva hvb (k H locs ls hP hS hL)
theorem v_dup2_2 (C : zOK p l e R s m args below meth c G cc nL own) {va : Value} (hdg : decode cc pc = .ok (.dup2, 1)) (hva : va.category = 2) (k : V p l e R s m args below meth c G nL Q h cs sl (pc + 1) lv (va :: va :: st)) : V p l e R s m args below meth c G nL Q h cs sl pc lv (va :: st) := fun H locs ls hP hS hL => lv_dup2_2 C.1 C.2.1 hdg hva (k H locs ls hP hS hL)
theorem v_pop2_2 (C : zOK p l e R s m args below meth c G cc nL own) {va : Value} (hdg : decode cc pc = .ok (.pop2, 1)) (hva : va.category = 2) (k : V p l e R s m args below meth c G nL Q h cs sl (pc + 1) lv (st)) : V p l e R s m args below meth c G nL Q h cs sl pc lv (va :: st) := fun H locs ls hP hS hL => lv_pop2_2 C.1 C.2.1 hdg hva (k H locs ls hP hS hL)
theorem v_if_eq (C : zOK p l e R s m args below meth c G cc nL own) {x : Int32} {off : Int} {tgt : Nat} (hdg : decode cc pc = .ok (.ifCond .eq off, 3)) (ht : (pc : Int) + off = (tgt : Int)) (kt : x = 0 → V p l e R s m args below meth c G nL Q h cs sl tgt lv st) (kf : ¬ x = 0 → V p l e R s m args below meth c G nL Q h cs sl (pc + 3) lv st) : V p l e R s m args below meth c G nL Q h cs sl pc lv (.int x :: st) := fun H locs ls hP hS hL => lv_if_eq C.1 C.2.1 hdg ht (fun z => kt z H locs ls hP hS hL) (fun z => kf z H locs ls hP hS hL)
theorem v_if_ne (C : zOK p l e R s m args below meth c G cc nL own) {x : Int32} {off : Int} {tgt : Nat} (hdg : decode cc pc = .ok (.ifCond .ne off, 3)) (ht : (pc : Int) + off = (tgt : Int)) (kt : ¬ x = 0 → V p l e R s m args below meth c G nL Q h cs sl tgt lv st) (kf : x = 0 → V p l e R s m args below meth c G nL Q h cs sl (pc + 3) lv st) : V p l e R s m args below meth c G nL Q h cs sl pc lv (.int x :: st) := fun H locs ls hP hS hL => lv_if_ne C.1 C.2.1 hdg ht (fun z => kt z H locs ls hP hS hL) (fun z => kf z H locs ls hP hS hL)
theorem v_if_lt (C : zOK p l e R s m args below meth c G cc nL own) {x : Int32} {off : Int} {tgt : Nat} (hdg : decode cc pc = .ok (.ifCond .lt off, 3)) (ht : (pc : Int) + off = (tgt : Int)) (kt : x < 0 → V p l e R s m args below meth c G nL Q h cs sl tgt lv st) (kf : ¬ x < 0 → V p l e R s m args below meth c G nL Q h cs sl (pc + 3) lv st) : V p l e R s m args below meth c G nL Q h cs sl pc lv (.int x :: st) := fun H locs ls hP hS hL => lv_if_lt C.1 C.2.1 hdg ht (fun z => kt z H locs ls hP hS hL) (fun z => kf z H locs ls hP hS hL)
theorem v_if_ge (C : zOK p l e R s m args below meth c G cc nL own) {x : Int32} {off : Int} {tgt : Nat} (hdg : decode cc pc = .ok (.ifCond .ge off, 3)) (ht : (pc : Int) + off = (tgt : Int)) (kt : 0 ≤ x → V p l e R s m args below meth c G nL Q h cs sl tgt lv st) (kf : ¬ 0 ≤ x → V p l e R s m args below meth c G nL Q h cs sl (pc + 3) lv st) : V p l e R s m args below meth c G nL Q h cs sl pc lv (.int x :: st) := fun H locs ls hP hS hL => lv_if_ge C.1 C.2.1 hdg ht (fun z => kt z H locs ls hP hS hL) (fun z => kf z H locs ls hP hS hL)
theorem v_if_gt (C : zOK p l e R s m args below meth c G cc nL own) {x : Int32} {off : Int} {tgt : Nat} (hdg : decode cc pc = .ok (.ifCond .gt off, 3)) (ht : (pc : Int) + off = (tgt : Int)) (kt : 0 < x → V p l e R s m args below meth c G nL Q h cs sl tgt lv st) (kf : ¬ 0 < x → V p l e R s m args below meth c G nL Q h cs sl (pc + 3) lv st) : V p l e R s m args below meth c G nL Q h cs sl pc lv (.int x :: st) := fun H locs ls hP hS hL => lv_if_gt C.1 C.2.1 hdg ht (fun z => kt z H locs ls hP hS hL) (fun z => kf z H locs ls hP hS hL)
theorem v_if_le (C : zOK p l e R s m args below meth c G cc nL own) {x : Int32} {off : Int} {tgt : Nat} (hdg : decode cc pc = .ok (.ifCond .le off, 3)) (ht : (pc : Int) + off = (tgt : Int)) (kt : x ≤ 0 → V p l e R s m args below meth c G nL Q h cs sl tgt lv st) (kf : ¬ x ≤ 0 → V p l e R s m args below meth c G nL Q h cs sl (pc + 3) lv st) : V p l e R s m args below meth c G nL Q h cs sl pc lv (.int x :: st) := fun H locs ls hP hS hL => lv_if_le C.1 C.2.1 hdg ht (fun z => kt z H locs ls hP hS hL) (fun z => kf z H locs ls hP hS hL)
theorem v_icmp_eq (C : zOK p l e R s m args below meth c G cc nL own) {x y : Int32} {off : Int} {tgt : Nat} (hdg : decode cc pc = .ok (.if_icmp .eq off, 3)) (ht : (pc : Int) + off = (tgt : Int)) (kt : x = y → V p l e R s m args below meth c G nL Q h cs sl tgt lv st) (kf : ¬ x = y → V p l e R s m args below meth c G nL Q h cs sl (pc + 3) lv st) : V p l e R s m args below meth c G nL Q h cs sl pc lv (.int y :: .int x :: st) := fun H locs ls hP hS hL => lv_icmp_eq C.1 C.2.1 hdg ht (fun z => kt z H locs ls hP hS hL) (fun z => kf z H locs ls hP hS hL)
theorem v_icmp_ne (C : zOK p l e R s m args below meth c G cc nL own) {x y : Int32} {off : Int} {tgt : Nat} (hdg : decode cc pc = .ok (.if_icmp .ne off, 3)) (ht : (pc : Int) + off = (tgt : Int)) (kt : ¬ x = y → V p l e R s m args below meth c G nL Q h cs sl tgt lv st) (kf : x = y → V p l e R s m args below meth c G nL Q h cs sl (pc + 3) lv st) : V p l e R s m args below meth c G nL Q h cs sl pc lv (.int y :: .int x :: st) := fun H locs ls hP hS hL => lv_icmp_ne C.1 C.2.1 hdg ht (fun z => kt z H locs ls hP hS hL) (fun z => kf z H locs ls hP hS hL)
theorem v_icmp_lt (C : zOK p l e R s m args below meth c G cc nL own) {x y : Int32} {off : Int} {tgt : Nat} (hdg : decode cc pc = .ok (.if_icmp .lt off, 3)) (ht : (pc : Int) + off = (tgt : Int)) (kt : x < y → V p l e R s m args below meth c G nL Q h cs sl tgt lv st) (kf : ¬ x < y → V p l e R s m args below meth c G nL Q h cs sl (pc + 3) lv st) : V p l e R s m args below meth c G nL Q h cs sl pc lv (.int y :: .int x :: st) := fun H locs ls hP hS hL => lv_icmp_lt C.1 C.2.1 hdg ht (fun z => kt z H locs ls hP hS hL) (fun z => kf z H locs ls hP hS hL)
theorem v_icmp_ge (C : zOK p l e R s m args below meth c G cc nL own) {x y : Int32} {off : Int} {tgt : Nat} (hdg : decode cc pc = .ok (.if_icmp .ge off, 3)) (ht : (pc : Int) + off = (tgt : Int)) (kt : y ≤ x → V p l e R s m args below meth c G nL Q h cs sl tgt lv st) (kf : ¬ y ≤ x → V p l e R s m args below meth c G nL Q h cs sl (pc + 3) lv st) : V p l e R s m args below meth c G nL Q h cs sl pc lv (.int y :: .int x :: st) := fun H locs ls hP hS hL => lv_icmp_ge C.1 C.2.1 hdg ht (fun z => kt z H locs ls hP hS hL) (fun z => kf z H locs ls hP hS hL)
theorem v_icmp_gt (C : zOK p l e R s m args below meth c G cc nL own) {x y : Int32} {off : Int} {tgt : Nat} (hdg : decode cc pc = .ok (.if_icmp .gt off, 3)) (ht : (pc : Int) + off = (tgt : Int)) (kt : y < x → V p l e R s m args below meth c G nL Q h cs sl tgt lv st) (kf : ¬ y < x → V p l e R s m args below meth c G nL Q h cs sl (pc + 3) lv st) : V p l e R s m args below meth c G nL Q h cs sl pc lv (.int y :: .int x :: st) := fun H locs ls hP hS hL => lv_icmp_gt C.1 C.2.1 hdg ht (fun z => kt z H locs ls hP hS hL) (fun z => kf z H locs ls hP hS hL)
theorem v_icmp_le (C : zOK p l e R s m args below meth c G cc nL own) {x y : Int32} {off : Int} {tgt : Nat} (hdg : decode cc pc = .ok (.if_icmp .le off, 3)) (ht : (pc : Int) + off = (tgt : Int)) (kt : x ≤ y → V p l e R s m args below meth c G nL Q h cs sl tgt lv st) (kf : ¬ x ≤ y → V p l e R s m args below meth c G nL Q h cs sl (pc + 3) lv st) : V p l e R s m args below meth c G nL Q h cs sl pc lv (.int y :: .int x :: st) := fun H locs ls hP hS hL => lv_icmp_le C.1 C.2.1 hdg ht (fun z => kt z H locs ls hP hS hL) (fun z => kf z H locs ls hP hS hL)
theorem v_goto (C : zOK p l e R s m args below meth c G cc nL own) {off : Int} {tgt : Nat} (hdg : decode cc pc = .ok (.goto off, 3)) (ht : (pc : Int) + off = (tgt : Int)) (k : V p l e R s m args below meth c G nL Q h cs sl tgt lv st) : V p l e R s m args below meth c G nL Q h cs sl pc lv st := fun H locs ls hP hS hL => lv_goto C.1 C.2.1 hdg ht (k H locs ls hP hS hL)
theorem v_ifnonnull (C : zOK p l e R s m args below meth c G cc nL own) {x : Nat} {off : Int} {tgt : Nat} (hdg : decode cc pc = .ok (.ifnonnull off, 3)) (ht : (pc : Int) + off = (tgt : Int)) (k : V p l e R s m args below meth c G nL Q h cs sl tgt lv st) : V p l e R s m args below meth c G nL Q h cs sl pc lv (.ref x :: st) := fun H locs ls hP hS hL => lv_ifnonnull C.1 C.2.1 hdg ht (k H locs ls hP hS hL)
theorem v_ifnull (C : zOK p l e R s m args below meth c G cc nL own) {x : Nat} {off : Int} (hdg : decode cc pc = .ok (.ifnull off, 3)) (k : V p l e R s m args below meth c G nL Q h cs sl (pc + 3) lv st) : V p l e R s m args below meth c G nL Q h cs sl pc lv (.ref x :: st) := fun H locs ls hP hS hL => lv_ifnull C.1 C.2.1 hdg (k H locs ls hP hS hL)
theorem v_null (C : zOK p l e R s m args below meth c G cc nL own) (hdg : decode cc pc = .ok (.aconst_null, 1)) (k : V p l e R s m args below meth c G nL Q h cs sl (pc + 1) lv (.null :: st)) : V p l e R s m args below meth c G nL Q h cs sl pc lv st := fun H locs ls hP hS hL => lv_null C.1 C.2.1 hdg (k H locs ls hP hS hL)
theorem v_ifnullN (C : zOK p l e R s m args below meth c G cc nL own) {off : Int} {tgt : Nat} (hdg : decode cc pc = .ok (.ifnull off, 3)) (ht : (pc : Int) + off = (tgt : Int)) (k : V p l e R s m args below meth c G nL Q h cs sl tgt lv st) : V p l e R s m args below meth c G nL Q h cs sl pc lv (.null :: st) := fun H locs ls hP hS hL => lv_ifnullN C.1 C.2.1 hdg ht (k H locs ls hP hS hL)
theorem v_ifnonnullN (C : zOK p l e R s m args below meth c G cc nL own) {off : Int} (hdg : decode cc pc = .ok (.ifnonnull off, 3)) (k : V p l e R s m args below meth c G nL Q h cs sl (pc + 3) lv st) : V p l e R s m args below meth c G nL Q h cs sl pc lv (.null :: st) := fun H locs ls hP hS hL => lv_ifnonnullN C.1 C.2.1 hdg (k H locs ls hP hS hL)
theorem v_acmp_eq (C : zOK p l e R s m args below meth c G cc nL own) {rx ry : Option Nat} {off : Int} {tgt : Nat} (hdg : decode cc pc = .ok (.if_acmp .eq off, 3)) (ht : (pc : Int) + off = (tgt : Int)) (kt : rx = ry → V p l e R s m args below meth c G nL Q h cs sl tgt lv st) (kf : ¬ rx = ry → V p l e R s m args below meth c G nL Q h cs sl (pc + 3) lv st) : V p l e R s m args below meth c G nL Q h cs sl pc lv (va_rf ry :: va_rf rx :: st) := fun H locs ls hP hS hL => lv_acmp_eq C.1 C.2.1 hdg ht (fun z => kt z H locs ls hP hS hL) (fun z => kf z H locs ls hP hS hL)
theorem v_acmp_ne (C : zOK p l e R s m args below meth c G cc nL own) {rx ry : Option Nat} {off : Int} {tgt : Nat} (hdg : decode cc pc = .ok (.if_acmp .ne off, 3)) (ht : (pc : Int) + off = (tgt : Int)) (kt : ¬ rx = ry → V p l e R s m args below meth c G nL Q h cs sl tgt lv st) (kf : rx = ry → V p l e R s m args below meth c G nL Q h cs sl (pc + 3) lv st) : V p l e R s m args below meth c G nL Q h cs sl pc lv (va_rf ry :: va_rf rx :: st) := fun H locs ls hP hS hL => lv_acmp_ne C.1 C.2.1 hdg ht (fun z => kt z H locs ls hP hS hL) (fun z => kf z H locs ls hP hS hL)
theorem v_castN (C : zOK p l e R s m args below meth c G cc nL own) {index : Nat} (hdg : decode cc pc = .ok (.checkcast index, 3)) (k : V p l e R s m args below meth c G nL Q h cs sl (pc + 3) lv (.null :: st)) : V p l e R s m args below meth c G nL Q h cs sl pc lv (.null :: st) := fun H locs ls hP hS hL => lv_castN C.1 C.2.1 hdg (k H locs ls hP hS hL)
theorem v_tableIn (C : zOK p l e R s m args below meth c G cc nL own) {dflt lo hi : Int} {offs : Array Int} {len : Nat} {x : Int32} {off : Int} {tgt : Nat} (hdg : decode cc pc = .ok (.tableswitch dflt lo hi offs, len)) (h1 : ¬ x.toInt < lo) (h2 : ¬ hi < x.toInt) (ho : offs[(x.toInt - lo).toNat]? = some off) (ht : (pc : Int) + off = (tgt : Int)) (k : V p l e R s m args below meth c G nL Q h cs sl tgt lv st) : V p l e R s m args below meth c G nL Q h cs sl pc lv (.int x :: st) := fun H locs ls hP hS hL => lv_tableIn C.1 C.2.1 hdg h1 h2 ho ht (k H locs ls hP hS hL)
theorem v_tableOut (C : zOK p l e R s m args below meth c G cc nL own) {dflt lo hi : Int} {offs : Array Int} {len : Nat} {x : Int32} {tgt : Nat} (hdg : decode cc pc = .ok (.tableswitch dflt lo hi offs, len)) (hx0 : x.toInt < lo ∨ hi < x.toInt) (ht : (pc : Int) + dflt = (tgt : Int)) (k : V p l e R s m args below meth c G nL Q h cs sl tgt lv st) : V p l e R s m args below meth c G nL Q h cs sl pc lv (.int x :: st) := fun H locs ls hP hS hL => lv_tableOut C.1 C.2.1 hdg hx0 ht (k H locs ls hP hS hL)
theorem v_lcmp (C : zOK p l e R s m args below meth c G cc nL own) {x y : Int64} (hdg : decode cc pc = .ok (.lcmp, 1)) (k : V p l e R s m args below meth c G nL Q h cs sl (pc + 1) lv (.int (lg_cmp x y) :: st)) : V p l e R s m args below meth c G nL Q h cs sl pc lv (.long y :: .long x :: st) := fun H locs ls hP hS hL => W.lcmp C.1 C.2.1 hdg (k H locs ls hP hS hL)
theorem v_iload_n (C : zOK p l e R s m args below meth c G cc nL own) {k : Fin 4} {i : Nat} {x : Int32} (j : Nat) (hl : lv[j]? = some (i, .int x)) (hd : decode cc pc = .ok (.iload_n k, 1)) (hi : (k : Nat) = i) (kk : V p l e R s m args below meth c G nL Q h cs sl (pc + 1) lv (.int x :: st)) : V p l e R s m args below meth c G nL Q h cs sl pc lv st := fun H locs ls hP hS hL => lv_iload_n C.1 C.2.1 hd hi (lv_at hL j hl) (kk H locs ls hP hS hL)
theorem v_iload (C : zOK p l e R s m args below meth c G cc nL own) {i : Nat} {x : Int32} (j : Nat) (hl : lv[j]? = some (i, .int x)) (hd : decode cc pc = .ok (.iload i, 2)) (kk : V p l e R s m args below meth c G nL Q h cs sl (pc + 2) lv (.int x :: st)) : V p l e R s m args below meth c G nL Q h cs sl pc lv st := fun H locs ls hP hS hL => lv_iload C.1 C.2.1 hd (lv_at hL j hl) (kk H locs ls hP hS hL)
theorem v_istore_n (C : zOK p l e R s m args below meth c G cc nL own) {k : Fin 4} {i : Nat} {x : Int32} (lv2 : List (Nat × Value)) (hl : (i, Value.int x) :: lv.filter (fun q => !(q.1 == i) && !(q.1 + 1 == i && q.2.category == 2)) = lv2) (hn : i < nL) (hd : decode cc pc = .ok (.istore_n k, 1)) (hi : (k : Nat) = i) (kk : V p l e R s m args below meth c G nL Q h cs sl (pc + 1) lv2 st) : V p l e R s m args below meth c G nL Q h cs sl pc lv (.int x :: st) := fun H locs ls hP hS hL => lv_istore_n C.1 C.2.1 hd hi hL hn hl (fun ls2 hL2 => kk H locs ls2 hP hS hL2)
theorem v_istore (C : zOK p l e R s m args below meth c G cc nL own) {i : Nat} {x : Int32} (lv2 : List (Nat × Value)) (hl : (i, Value.int x) :: lv.filter (fun q => !(q.1 == i) && !(q.1 + 1 == i && q.2.category == 2)) = lv2) (hn : i < nL) (hd : decode cc pc = .ok (.istore i, 2)) (kk : V p l e R s m args below meth c G nL Q h cs sl (pc + 2) lv2 st) : V p l e R s m args below meth c G nL Q h cs sl pc lv (.int x :: st) := fun H locs ls hP hS hL => lv_istore C.1 C.2.1 hd hL hn hl (fun ls2 hL2 => kk H locs ls2 hP hS hL2)
theorem v_lload_n (C : zOK p l e R s m args below meth c G cc nL own) {k : Fin 4} {i : Nat} {x : Int64} (j : Nat) (hl : lv[j]? = some (i, .long x)) (hd : decode cc pc = .ok (.lload_n k, 1)) (hi : (k : Nat) = i) (kk : V p l e R s m args below meth c G nL Q h cs sl (pc + 1) lv (.long x :: st)) : V p l e R s m args below meth c G nL Q h cs sl pc lv st := fun H locs ls hP hS hL => lv_lload_n C.1 C.2.1 hd hi (lv_at hL j hl) (kk H locs ls hP hS hL)
theorem v_lload (C : zOK p l e R s m args below meth c G cc nL own) {i : Nat} {x : Int64} (j : Nat) (hl : lv[j]? = some (i, .long x)) (hd : decode cc pc = .ok (.lload i, 2)) (kk : V p l e R s m args below meth c G nL Q h cs sl (pc + 2) lv (.long x :: st)) : V p l e R s m args below meth c G nL Q h cs sl pc lv st := fun H locs ls hP hS hL => lv_lload C.1 C.2.1 hd (lv_at hL j hl) (kk H locs ls hP hS hL)
theorem v_lstore_n (C : zOK p l e R s m args below meth c G cc nL own) {k : Fin 4} {i : Nat} {x : Int64} (lv2 : List (Nat × Value)) (hl : (i, Value.long x) :: lv.filter (fun q => !(q.1 == i) && (!(q.1 == i + 1) && !(q.1 + 1 == i && q.2.category == 2))) = lv2) (hn : i + 1 < nL) (hd : decode cc pc = .ok (.lstore_n k, 1)) (hi : (k : Nat) = i) (kk : V p l e R s m args below meth c G nL Q h cs sl (pc + 1) lv2 st) : V p l e R s m args below meth c G nL Q h cs sl pc lv (.long x :: st) := fun H locs ls hP hS hL => lv_lstore_n C.1 C.2.1 hd hi hL hn hl (fun ls2 hL2 => kk H locs ls2 hP hS hL2)
theorem v_lstore (C : zOK p l e R s m args below meth c G cc nL own) {i : Nat} {x : Int64} (lv2 : List (Nat × Value)) (hl : (i, Value.long x) :: lv.filter (fun q => !(q.1 == i) && (!(q.1 == i + 1) && !(q.1 + 1 == i && q.2.category == 2))) = lv2) (hn : i + 1 < nL) (hd : decode cc pc = .ok (.lstore i, 2)) (kk : V p l e R s m args below meth c G nL Q h cs sl (pc + 2) lv2 st) : V p l e R s m args below meth c G nL Q h cs sl pc lv (.long x :: st) := fun H locs ls hP hS hL => lv_lstore C.1 C.2.1 hd hL hn hl (fun ls2 hL2 => kk H locs ls2 hP hS hL2)
theorem v_aload_n (C : zOK p l e R s m args below meth c G cc nL own) {k : Fin 4} {i : Nat} {x : Nat} (j : Nat) (hl : lv[j]? = some (i, .ref x)) (hd : decode cc pc = .ok (.aload_n k, 1)) (hi : (k : Nat) = i) (kk : V p l e R s m args below meth c G nL Q h cs sl (pc + 1) lv (.ref x :: st)) : V p l e R s m args below meth c G nL Q h cs sl pc lv st := fun H locs ls hP hS hL => lv_aload_n C.1 C.2.1 hd hi (lv_at hL j hl) (kk H locs ls hP hS hL)
theorem v_aload (C : zOK p l e R s m args below meth c G cc nL own) {i : Nat} {x : Nat} (j : Nat) (hl : lv[j]? = some (i, .ref x)) (hd : decode cc pc = .ok (.aload i, 2)) (kk : V p l e R s m args below meth c G nL Q h cs sl (pc + 2) lv (.ref x :: st)) : V p l e R s m args below meth c G nL Q h cs sl pc lv st := fun H locs ls hP hS hL => lv_aload C.1 C.2.1 hd (lv_at hL j hl) (kk H locs ls hP hS hL)
theorem v_astore_n (C : zOK p l e R s m args below meth c G cc nL own) {k : Fin 4} {i : Nat} {x : Nat} (lv2 : List (Nat × Value)) (hl : (i, Value.ref x) :: lv.filter (fun q => !(q.1 == i) && !(q.1 + 1 == i && q.2.category == 2)) = lv2) (hn : i < nL) (hd : decode cc pc = .ok (.astore_n k, 1)) (hi : (k : Nat) = i) (kk : V p l e R s m args below meth c G nL Q h cs sl (pc + 1) lv2 st) : V p l e R s m args below meth c G nL Q h cs sl pc lv (.ref x :: st) := fun H locs ls hP hS hL => lv_astore_n C.1 C.2.1 hd hi hL hn hl (fun ls2 hL2 => kk H locs ls2 hP hS hL2)
theorem v_astore (C : zOK p l e R s m args below meth c G cc nL own) {i : Nat} {x : Nat} (lv2 : List (Nat × Value)) (hl : (i, Value.ref x) :: lv.filter (fun q => !(q.1 == i) && !(q.1 + 1 == i && q.2.category == 2)) = lv2) (hn : i < nL) (hd : decode cc pc = .ok (.astore i, 2)) (kk : V p l e R s m args below meth c G nL Q h cs sl (pc + 2) lv2 st) : V p l e R s m args below meth c G nL Q h cs sl pc lv (.ref x :: st) := fun H locs ls hP hS hL => lv_astore C.1 C.2.1 hd hL hn hl (fun ls2 hL2 => kk H locs ls2 hP hS hL2)
theorem v_aload_nN (C : zOK p l e R s m args below meth c G cc nL own) {k : Fin 4} {i : Nat} (j : Nat) (hl : lv[j]? = some (i, .null)) (hd : decode cc pc = .ok (.aload_n k, 1)) (hi : (k : Nat) = i) (kk : V p l e R s m args below meth c G nL Q h cs sl (pc + 1) lv (.null :: st)) : V p l e R s m args below meth c G nL Q h cs sl pc lv st := fun H locs ls hP hS hL => lv_aload_nN C.1 C.2.1 hd hi (lv_at hL j hl) (kk H locs ls hP hS hL)
theorem v_aloadN (C : zOK p l e R s m args below meth c G cc nL own) {i : Nat} (j : Nat) (hl : lv[j]? = some (i, .null)) (hd : decode cc pc = .ok (.aload i, 2)) (kk : V p l e R s m args below meth c G nL Q h cs sl (pc + 2) lv (.null :: st)) : V p l e R s m args below meth c G nL Q h cs sl pc lv st := fun H locs ls hP hS hL => lv_aloadN C.1 C.2.1 hd (lv_at hL j hl) (kk H locs ls hP hS hL)
theorem v_astore_nN (C : zOK p l e R s m args below meth c G cc nL own) {k : Fin 4} {i : Nat} (lv2 : List (Nat × Value)) (hl : (i, Value.null) :: lv.filter (fun q => !(q.1 == i) && !(q.1 + 1 == i && q.2.category == 2)) = lv2) (hn : i < nL) (hd : decode cc pc = .ok (.astore_n k, 1)) (hi : (k : Nat) = i) (kk : V p l e R s m args below meth c G nL Q h cs sl (pc + 1) lv2 st) : V p l e R s m args below meth c G nL Q h cs sl pc lv (.null :: st) := fun H locs ls hP hS hL => lv_astore_nN C.1 C.2.1 hd hi hL hn hl (fun ls2 hL2 => kk H locs ls2 hP hS hL2)
theorem v_astoreN (C : zOK p l e R s m args below meth c G cc nL own) {i : Nat} (lv2 : List (Nat × Value)) (hl : (i, Value.null) :: lv.filter (fun q => !(q.1 == i) && !(q.1 + 1 == i && q.2.category == 2)) = lv2) (hn : i < nL) (hd : decode cc pc = .ok (.astore i, 2)) (kk : V p l e R s m args below meth c G nL Q h cs sl (pc + 2) lv2 st) : V p l e R s m args below meth c G nL Q h cs sl pc lv (.null :: st) := fun H locs ls hP hS hL => lv_astoreN C.1 C.2.1 hd hL hn hl (fun ls2 hL2 => kk H locs ls2 hP hS hL2)
theorem v_iinc (C : zOK p l e R s m args below meth c G cc nL own) {i : Nat} {n : Int} {x v : Int32} (j : Nat) (lv2 : List (Nat × Value)) (hj : lv[j]? = some (i, .int x)) (hv : x + Int32.ofInt n = v) (hl : (i, Value.int v) :: lv.filter (fun q => !(q.1 == i) && !(q.1 + 1 == i && q.2.category == 2)) = lv2) (hn : i < nL) (hd : decode cc pc = .ok (.iinc i n, 3)) (kk : V p l e R s m args below meth c G nL Q h cs sl (pc + 3) lv2 st) : V p l e R s m args below meth c G nL Q h cs sl pc lv st := fun H locs ls hP hS hL => lv_iinc C.1 C.2.1 hd hL hj hv hn hl (fun ls2 hL2 => kk H locs ls2 hP hS hL2)
theorem v_ldc (C : zOK p l e R s m args below meth c G cc nL own) {index : Nat} {v : Int32} (hc : Cond.constant own index v ∈ zT) (hd : decode cc pc = .ok (.ldc index, 2)) (kk : V p l e R s m args below meth c G nL Q h cs sl (pc + 2) lv (.int v :: st)) : V p l e R s m args below meth c G nL Q h cs sl pc lv st := fun H locs ls hP hS hL => lv_ldc C.1 C.2.1 C.2.2.2.1 (C.2.2.2.2.1 _ hc) hd (kk H locs ls hP hS hL)
theorem v_ldcw (C : zOK p l e R s m args below meth c G cc nL own) {index : Nat} {v : Int32} (hc : Cond.constant own index v ∈ zT) (hd : decode cc pc = .ok (.ldc_w index, 3)) (kk : V p l e R s m args below meth c G nL Q h cs sl (pc + 3) lv (.int v :: st)) : V p l e R s m args below meth c G nL Q h cs sl pc lv st := fun H locs ls hP hS hL => lv_ldcw C.1 C.2.1 C.2.2.2.1 (C.2.2.2.2.1 _ hc) hd (kk H locs ls hP hS hL)
theorem v_ldc2 (C : zOK p l e R s m args below meth c G cc nL own) {index : Nat} {v : Int64} (hc : Cond.constantLong own index v ∈ zT) (hd : decode cc pc = .ok (.ldc2_w index, 3)) (kk : V p l e R s m args below meth c G nL Q h cs sl (pc + 3) lv (.long v :: st)) : V p l e R s m args below meth c G nL Q h cs sl pc lv st := fun H locs ls hP hS hL => lv_ldc2 C.1 C.2.1 C.2.2.2.1 (C.2.2.2.2.1 _ hc) hd (kk H locs ls hP hS hL)
/-! fields -/
def zSame (ref : String) (t : String × String × String × Bool) : Prop := ref = t.1 ∨ Cond.sameField ref t.1 t.2.1 t.2.2.1 ∈ zT
def zLk (own : String) (index : Nat) (ref : String) (t : String × String × String × Bool) : Prop := Cond.fieldLink own index ref t.2.1 t.2.2.1 ∈ zT ∨ ∃ host : String, Cond.fieldLinkNest own index ref t.2.1 t.2.2.1 host ∈ zT
def zFld (own : String) (index ci k : Nat) : Prop := ∃ (C ref : String) (T : u_T) (N : Nat), zCl[ci]? = some (C, T, N) ∧ k < N ∧ (∀ w ∈ u_ws C T N, w ∈ zT) ∧ zLk own index ref (T k) ∧ zSame ref (T k)
theorem zSame.use {ref : String} {t : String × String × String × Bool} (hs : zSame ref t) {s : State} {args : Array Value} (hts : ∀ w ∈ zT, w.before args s = true) : ∀ x, s.fieldFound? t.1 t.2.1 t.2.2.1 = some x → s.fieldFound? ref t.2.1 t.2.2.1 = some x := by
  rcases hs with rfl | hs
  · exact fun _ hx => hx
  · exact fun x hx => u_same (hts _ hs) x hx
theorem v_get (C : zOK p l e R s m args below meth c G cc nL own) {a ci k index : Nat} {fs : List Value} {v : Value} (F : zFld own index ci k) (ha : h a = some (.inr (ci, fs))) (hv : fs[k]? = some v) (hd : decode cc pc = .ok (.getfield index, 3)) (kk : V p l e R s m args below meth c G nL Q h cs sl (pc + 3) lv (v :: st)) : V p l e R s m args below meth c G nL Q h cs sl pc lv (.ref a :: st) := by
  obtain ⟨hx, hb, -, hown, hts, hK, -⟩ := C
  obtain ⟨C', ref, T, N, f1, f2, f3, f4, f5⟩ := F
  intro H locs ls hP hS hL
  rcases f4 with f4 | ⟨host, f4⟩
  · exact va_get (D := gD G) (cl := zCl) hx hb hts f3 hown hK.1 (hP.one ha) 0 rfl f1 k f2 (hts _ f4) (f5.use hts) hv hd (kk H locs ls hP hS hL)
  · exact va_getN (D := gD G) (cl := zCl) hx hb hts f3 hown hK.1 (hP.one ha) 0 rfl f1 k f2 (hts _ f4) (f5.use hts) hv hd (kk H locs ls hP hS hL)
def zPut (own : String) (index ci k : Nat) (ty : FieldType) (fin : Bool) : Prop := ∃ (C ref : String) (T : u_T) (N : Nat) (ty0 : Nat → FieldType), zCl[ci]? = some (C, T, N) ∧ k < N ∧ (∀ w ∈ u_ws C T N, w ∈ zT) ∧ zLk own index ref (T k) ∧ zSame ref (T k) ∧ (∀ j, j < N → parseFieldDescriptor (T j).2.2.1 = some (ty0 j)) ∧ (∀ a, a < N → ∀ b, b < N → a ≠ b → (T a).2.1 ≠ (T b).2.1) ∧ (T k).2.2.2 = fin ∧ parseFieldDescriptor (T k).2.2.1 = some ty ∧ (fin = true → (T k).1 = own ∧ Cond.fieldLink own index ref (T k).2.1 (T k).2.2.1 ∈ zT)
theorem v_put (C : zOK p l e R s m args below meth c G cc nL own) {a ci k index : Nat} {ty : FieldType} {fs : List Value} {v : Value} (fs2 : List Value) (F : zPut own index ci k ty false) (ha : h a = some (.inr (ci, fs))) (hv : fs.set k v = fs2) (hn : narrow ty v = v) (hf : fits ty v = true) (hl : k < fs.length) (hd : decode cc pc = .ok (.putfield index, 3)) (kk : V p l e R s m args below meth c G nL Q (zup h a (.inr (ci, fs2))) cs sl (pc + 3) lv st) : V p l e R s m args below meth c G nL Q h cs sl pc lv (v :: .ref a :: st) := by
  obtain ⟨hx, hb, -, hown, hts, hK, -, hN, -⟩ := C
  obtain ⟨C', ref, T, N, ty0, f1, f2, f3, f4, f5, f6, f7, f8, f9, -⟩ := F
  subst hv
  intro H locs ls hP hS hL
  refine hP.put (e' := .inr (ci, fs.set k v)) ha (fun ws q0 p d hq kw => ?_)
  rcases f4 with f4 | ⟨host, f4⟩
  · exact va_put (D := gD G) (cl := zCl) hx hb hts f3 ty0 f6 f7 hown hK.1 p d hS q0 hq f1 k f2 (hts _ f4) (f5.use hts) f8 f9 hn hf hl hd (fun H1 locs1 p1 d1 S1 => kk H1 locs1 ls (kw H1 (Nat.le_trans hN S1.1) p1 d1) S1 hL)
  · exact va_putN (D := gD G) (cl := zCl) hx hb hts f3 ty0 f6 f7 hown hK.1 p d hS q0 hq f1 k f2 (hts _ f4) (f5.use hts) f8 f9 hn hf hl hd (fun H1 locs1 p1 d1 S1 => kk H1 locs1 ls (kw H1 (Nat.le_trans hN S1.1) p1 d1) S1 hL)
theorem v_putF (C : zOK p l e R s m args below meth c G cc nL own) {a ci k index : Nat} {ty : FieldType} {fs : List Value} {v : Value} (fs2 : List Value) (F : zPut own index ci k ty true) (hin : meth.name = "<init>") (ha : h a = some (.inr (ci, fs))) (hv : fs.set k v = fs2) (hn : narrow ty v = v) (hf : fits ty v = true) (hl : k < fs.length) (hd : decode cc pc = .ok (.putfield index, 3)) (kk : V p l e R s m args below meth c G nL Q (zup h a (.inr (ci, fs2))) cs sl (pc + 3) lv st) : V p l e R s m args below meth c G nL Q h cs sl pc lv (v :: .ref a :: st) := by
  obtain ⟨hx, hb, -, hown, hts, hK, -, hN, -⟩ := C
  obtain ⟨C', ref, T, N, ty0, f1, f2, f3, f4, f5, f6, f7, f8, f9, f10⟩ := F
  subst hv
  intro H locs ls hP hS hL
  refine hP.put (e' := .inr (ci, fs.set k v)) ha (fun ws q0 p d hq kw => ?_)
  exact va_putF (D := gD G) (cl := zCl) hx hb hts f3 ty0 f6 f7 hown hK.1 p d hS q0 hq f1 k f2 (hts _ (f10 rfl).2) (f5.use hts) f8 hin (f10 rfl).1 f9 hn hf hl hd (fun H1 locs1 p1 d1 S1 => kk H1 locs1 ls (kw H1 (Nat.le_trans hN S1.1) p1 d1) S1 hL)
/-! arrays -/
theorem v_iald (C : zOK p l e R s m args below meth c G cc nL own) {a n : Nat} {f : Nat → Int32} {i : Int32} (ha : h a = some (.inl (gc G 0, n, .inl f))) (hin : vp_in i n) (hd : decode cc pc = .ok (.iaload, 1)) (kk : V p l e R s m args below meth c G nL Q h cs sl (pc + 1) lv (.int (f i.toNatClampNeg) :: st)) : V p l e R s m args below meth c G nL Q h cs sl pc lv (.int i :: .ref a :: st) := fun H locs ls hP hS hL => va_iald C.1 C.2.1 C.2.2.2.2.2.1.1 (hP.one ha) 0 0 rfl rfl hin hd (kk H locs ls hP hS hL)
theorem v_bald (C : zOK p l e R s m args below meth c G cc nL own) {a n : Nat} {f : Nat → Int32} {i : Int32} (ha : h a = some (.inl (gc G 2, n, .inl f))) (hin : vp_in i n) (hd : decode cc pc = .ok (.baload, 1)) (kk : V p l e R s m args below meth c G nL Q h cs sl (pc + 1) lv (.int (f i.toNatClampNeg) :: st)) : V p l e R s m args below meth c G nL Q h cs sl pc lv (.int i :: .ref a :: st) := fun H locs ls hP hS hL => va_bald C.1 C.2.1 C.2.2.2.2.2.1.1 (hP.one ha) 0 2 rfl rfl hin hd (kk H locs ls hP hS hL)
theorem v_zald (C : zOK p l e R s m args below meth c G cc nL own) {a n : Nat} {f : Nat → Int32} {i : Int32} (ha : h a = some (.inl (gc G 4, n, .inl f))) (hin : vp_in i n) (hd : decode cc pc = .ok (.baload, 1)) (kk : V p l e R s m args below meth c G nL Q h cs sl (pc + 1) lv (.int (f i.toNatClampNeg) :: st)) : V p l e R s m args below meth c G nL Q h cs sl pc lv (.int i :: .ref a :: st) := fun H locs ls hP hS hL => va_zald C.1 C.2.1 C.2.2.2.2.2.1.1 (hP.one ha) 0 4 rfl rfl hin hd (kk H locs ls hP hS hL)
theorem v_cald (C : zOK p l e R s m args below meth c G cc nL own) {a n : Nat} {f : Nat → Int32} {i : Int32} (ha : h a = some (.inl (gc G 3, n, .inl f))) (hin : vp_in i n) (hd : decode cc pc = .ok (.caload, 1)) (kk : V p l e R s m args below meth c G nL Q h cs sl (pc + 1) lv (.int (f i.toNatClampNeg) :: st)) : V p l e R s m args below meth c G nL Q h cs sl pc lv (.int i :: .ref a :: st) := fun H locs ls hP hS hL => va_cald C.1 C.2.1 C.2.2.2.2.2.1.1 (hP.one ha) 0 3 rfl rfl hin hd (kk H locs ls hP hS hL)
theorem v_lald (C : zOK p l e R s m args below meth c G cc nL own) {a n : Nat} {f : Nat → Int64} {i : Int32} (ha : h a = some (.inl (gc G 1, n, .inr (.inl f)))) (hin : vp_in i n) (hd : decode cc pc = .ok (.laload, 1)) (kk : V p l e R s m args below meth c G nL Q h cs sl (pc + 1) lv (.long (f i.toNatClampNeg) :: st)) : V p l e R s m args below meth c G nL Q h cs sl pc lv (.int i :: .ref a :: st) := fun H locs ls hP hS hL => va_lald C.1 C.2.1 C.2.2.2.2.2.1.1 (hP.one ha) 0 1 rfl rfl hin hd (kk H locs ls hP hS hL)
theorem v_aald (C : zOK p l e R s m args below meth c G cc nL own) {a n : Nat} {f : Nat → Option Nat} {i : Int32} {ca : ClassId} {ty : FieldType} (t : Nat) (ht : (zTy (gc G))[t]? = some (ca, ty)) (hty : ty.isReference = true) (ha : h a = some (.inl (ca, n, .inr (.inr (.inr (.inr f)))))) (hin : vp_in i n) (hd : decode cc pc = .ok (.aaload, 1)) (kk : V p l e R s m args below meth c G nL Q h cs sl (pc + 1) lv (va_rf (f i.toNatClampNeg) :: st)) : V p l e R s m args below meth c G nL Q h cs sl pc lv (.int i :: .ref a :: st) := by
  obtain ⟨hx, hb, -, hown, hts, hK, -⟩ := C
  intro H locs ls hP hS hL
  have hlt : i.toNatClampNeg < n := Nat.not_le.mp fun q => hin (Or.inr q)
  exact W.aald (v := va_rf (f i.toNatClampNeg)) (ty := ty) hx hb (hP.get ha) ((hK.1.2 t _ ht).1 n (fun j => va_rf (f j))) hty (fun q => by cases q) (by show ¬ (i < 0 ∨ (arrV _ _ _).slots.size ≤ _); rw [arrV_size]; exact hin) (by show (arrV _ _ _).slots[_]? = _; rw [arrV_read _ _ hlt]) rfl rfl hd (kk H locs ls hP hS hL)
theorem v_alen (C : zOK p l e R s m args below meth c G cc nL own) {a : Nat} {ca : ClassId} {ty : FieldType} {x : vp_A} {v : Int32} (t : Nat) (ht : (zTy (gc G))[t]? = some (ca, ty)) (ha : h a = some (.inl (ca, x))) (hv : Int32.ofNat x.1 = v) (hd : decode cc pc = .ok (.arraylength, 1)) (kk : V p l e R s m args below meth c G nL Q h cs sl (pc + 1) lv (.int v :: st)) : V p l e R s m args below meth c G nL Q h cs sl pc lv (.ref a :: st) := fun H locs ls hP hS hL => va_alen C.1 C.2.1 C.2.2.2.2.2.1.1 (hP.one ha) 0 t rfl ht hv hd (kk H locs ls hP hS hL)
theorem v_iast (C : zOK p l e R s m args below meth c G cc nL own) {a n : Nat} {f : Nat → Int32} {i x : Int32} (ha : h a = some (.inl (gc G 0, n, .inl f))) (hin : vp_in i n) (hd : decode cc pc = .ok (.iastore, 1)) (kk : V p l e R s m args below meth c G nL Q (zup h a (.inl (gc G 0, n, .inl (upd f i.toNatClampNeg x)))) cs sl (pc + 1) lv st) : V p l e R s m args below meth c G nL Q h cs sl pc lv (.int x :: .int i :: .ref a :: st) := fun H locs ls hP hS hL => hP.put ha (fun ws q0 p d hq kw => va_iast C.1 C.2.1 C.2.2.2.2.2.1.1 p d hS q0 0 hq rfl hin hd (fun H1 locs1 p1 d1 S1 => kk H1 locs1 ls (kw H1 (Nat.le_trans C.2.2.2.2.2.2.2.1 S1.1) p1 d1) S1 hL))
theorem v_bast (C : zOK p l e R s m args below meth c G cc nL own) {a n : Nat} {f : Nat → Int32} {i x : Int32} (ha : h a = some (.inl (gc G 2, n, .inl f))) (hin : vp_in i n) (hd : decode cc pc = .ok (.bastore, 1)) (kk : V p l e R s m args below meth c G nL Q (zup h a (.inl (gc G 2, n, .inl (upd f i.toNatClampNeg (vp_nar .byte x))))) cs sl (pc + 1) lv st) : V p l e R s m args below meth c G nL Q h cs sl pc lv (.int x :: .int i :: .ref a :: st) := fun H locs ls hP hS hL => hP.put ha (fun ws q0 p d hq kw => va_bast C.1 C.2.1 C.2.2.2.2.2.1.1 p d hS q0 2 hq rfl hin hd (fun H1 locs1 p1 d1 S1 => kk H1 locs1 ls (kw H1 (Nat.le_trans C.2.2.2.2.2.2.2.1 S1.1) p1 d1) S1 hL))
theorem v_zast (C : zOK p l e R s m args below meth c G cc nL own) {a n : Nat} {f : Nat → Int32} {i x : Int32} (ha : h a = some (.inl (gc G 4, n, .inl f))) (hin : vp_in i n) (hd : decode cc pc = .ok (.bastore, 1)) (kk : V p l e R s m args below meth c G nL Q (zup h a (.inl (gc G 4, n, .inl (upd f i.toNatClampNeg (vp_nar .boolean x))))) cs sl (pc + 1) lv st) : V p l e R s m args below meth c G nL Q h cs sl pc lv (.int x :: .int i :: .ref a :: st) := fun H locs ls hP hS hL => hP.put ha (fun ws q0 p d hq kw => va_zast C.1 C.2.1 C.2.2.2.2.2.1.1 p d hS q0 4 hq rfl hin hd (fun H1 locs1 p1 d1 S1 => kk H1 locs1 ls (kw H1 (Nat.le_trans C.2.2.2.2.2.2.2.1 S1.1) p1 d1) S1 hL))
theorem v_cast (C : zOK p l e R s m args below meth c G cc nL own) {a n : Nat} {f : Nat → Int32} {i x : Int32} (ha : h a = some (.inl (gc G 3, n, .inl f))) (hin : vp_in i n) (hd : decode cc pc = .ok (.castore, 1)) (kk : V p l e R s m args below meth c G nL Q (zup h a (.inl (gc G 3, n, .inl (upd f i.toNatClampNeg (vp_nar .char x))))) cs sl (pc + 1) lv st) : V p l e R s m args below meth c G nL Q h cs sl pc lv (.int x :: .int i :: .ref a :: st) := fun H locs ls hP hS hL => hP.put ha (fun ws q0 p d hq kw => va_cast C.1 C.2.1 C.2.2.2.2.2.1.1 p d hS q0 3 hq rfl hin hd (fun H1 locs1 p1 d1 S1 => kk H1 locs1 ls (kw H1 (Nat.le_trans C.2.2.2.2.2.2.2.1 S1.1) p1 d1) S1 hL))
theorem v_last (C : zOK p l e R s m args below meth c G cc nL own) {a n : Nat} {f : Nat → Int64} {i : Int32} {x : Int64} (ha : h a = some (.inl (gc G 1, n, .inr (.inl f)))) (hin : vp_in i n) (hd : decode cc pc = .ok (.lastore, 1)) (kk : V p l e R s m args below meth c G nL Q (zup h a (.inl (gc G 1, n, .inr (.inl (vp_updL f i.toNatClampNeg x))))) cs sl (pc + 1) lv st) : V p l e R s m args below meth c G nL Q h cs sl pc lv (.long x :: .int i :: .ref a :: st) := fun H locs ls hP hS hL => hP.put ha (fun ws q0 p d hq kw => va_last C.1 C.2.1 C.2.2.2.2.2.1.1 p d hS q0 1 hq rfl hin hd (fun H1 locs1 p1 d1 S1 => kk H1 locs1 ls (kw H1 (Nat.le_trans C.2.2.2.2.2.2.2.1 S1.1) p1 d1) S1 hL))
theorem v_aastN (C : zOK p l e R s m args below meth c G cc nL own) {a n : Nat} {f : Nat → Option Nat} {i : Int32} {ca : ClassId} {E : String} (t : Nat) (ht : (zTy (gc G))[t]? = some (ca, .object E)) (ha : h a = some (.inl (ca, n, .inr (.inr (.inr (.inr f)))))) (hin : vp_in i n) (hd : decode cc pc = .ok (.aastore, 1)) (kk : V p l e R s m args below meth c G nL Q (zup h a (.inl (ca, n, .inr (.inr (.inr (.inr (va_up f i.toNatClampNeg none))))))) cs sl (pc + 1) lv st) : V p l e R s m args below meth c G nL Q h cs sl pc lv (.null :: .int i :: .ref a :: st) := fun H locs ls hP hS hL => hP.put ha (fun ws q0 p d hq kw => va_astqN C.1 C.2.1 C.2.2.2.2.2.1.1 p d hS q0 t hq ht hin hd (fun H1 locs1 p1 d1 S1 => kk H1 locs1 ls (kw H1 (Nat.le_trans C.2.2.2.2.2.2.2.1 S1.1) p1 d1) S1 hL))
/-- an element: an object of the world, of class ci, that can be cast to the array's component -/
theorem v_aast (C : zOK p l e R s m args below meth c G cc nL own) {a n v ci : Nat} {vs : List Value} {f : Nat → Option Nat} {i : Int32} {ca : ClassId} {E : String} {r : vw_C} (t : Nat) (ht : (zTy (gc G))[t]? = some (ca, .object E)) (ha : h a = some (.inl (ca, n, .inr (.inr (.inr (.inr f)))))) (hv : h v = some (.inr (ci, vs))) (hc : zCl[ci]? = some r) (hca : Cond.castable r.1 E ∈ zT ∨ r.1 = E) (hin : vp_in i n) (hd : decode cc pc = .ok (.aastore, 1)) (kk : V p l e R s m args below meth c G nL Q (zup h a (.inl (ca, n, .inr (.inr (.inr (.inr (va_up f i.toNatClampNeg (some v)))))))) cs sl (pc + 1) lv st) : V p l e R s m args below meth c G nL Q h cs sl pc lv (.ref v :: .int i :: .ref a :: st) := by
  obtain ⟨hx, hb, -, hown, hts, hK, -, hN, -⟩ := C
  intro H locs ls hP hS hL
  refine hP.put (e' := .inl (ca, n, .inr (.inr (.inr (.inr (va_up f i.toNatClampNeg (some v))))))) ha (fun ws q0 p d hq kw => ?_)
  have hr : va_Any E s H v := by
    obtain ⟨r', h1, cell, h2, h3, h4, -⟩ := hP.get hv
    cases hc.symm.trans h1
    obtain ⟨hcl, kC, hkC, hkk⟩ := (hK.1.1 ci r hc).2
    refine ⟨cell, h2, by rw [h4]; rfl, ⟨kC, by rw [h3]; exact hkC⟩, fun comp hcomp => ?_⟩
    rw [h3]
    rcases hca with hca | hca
    · obtain ⟨c3, c4, g1, g2, g3⟩ := Cond.castable_spec (hts _ hca)
      cases g1.symm.trans hcl
      cases g2.symm.trans hcomp
      exact g3
    · subst hca
      cases hcl.symm.trans hcomp
      exact va_assign ⟨hcl, kC, hkC, hkk⟩
  exact va_astqM hx hb hK.1 p d hS q0 t hq ht hr hin hd (fun H1 locs1 p1 d1 S1 => kk H1 locs1 ls (kw H1 (Nat.le_trans hN S1.1) p1 d1) S1 hL)
/-! new cells -/
def zNew (own : String) (index ci N : Nat) (fs : List Value) : Prop := ∃ (C : String) (T : u_T) (ty : Nat → FieldType), zCl[ci]? = some (C, T, N) ∧ (∀ w ∈ u_ws C T N, w ∈ zT) ∧ (∀ j, j < N → parseFieldDescriptor (T j).2.2.1 = some (ty j)) ∧ Cond.classLink own index C ∈ zT ∧ Cond.instantiable C N ∈ zT ∧ Cond.initialized C ∈ zT ∧ ∀ j, j < N → defaultValue (ty j) = vp_V fs j
theorem v_new (C : zOK p l e R s m args below meth c G cc nL own) {index ci N : Nat} {fs : List Value} (F : zNew own index ci N fs) (hc : cs + 1 ≤ R.cells) (hs : sl + N ≤ R.slots) (hd : decode cc pc = .ok (.new index, 3)) (kk : ∀ q : Nat, gN G ≤ q → h q = none → V p l e R s m args below meth c G nL Q (zup h q (.inr (ci, fs))) (cs + 1) (sl + N) (pc + 3) lv (.ref q :: st)) : V p l e R s m args below meth c G nL Q h cs sl pc lv st := by
  obtain ⟨hx, hb, -, hown, hts, hK, -, hN, -⟩ := C
  obtain ⟨C', T, ty, f1, f2, f3, f4, f5, f6, f7⟩ := F
  intro H locs ls hP hS hL
  refine hP.new (fun ws p d kw => ?_)
  exact va_new (D := gD G) (cl := zCl) hx hb hts f2 ty f3 hown (hts _ f4) (hts _ f5) (hts _ f6) hK.1 p d hS (fun q hq => Nat.le_trans hN hq) f1 f7 hc hs hd (fun q H1 p1 d1 S1 => by
    obtain ⟨g1, g2, g3⟩ := kw q _ H1 (Nat.le_trans hN S1.1) p1 d1
    exact kk q g1 g2 H1 locs ls g3 S1 hL)
theorem v_newa (C : zOK p l e R s m args below meth c G cc nL own) {atype : ArrayType} {ty : FieldType} {ca : ClassId} {n : Int32} {N : Nat} {z : vp_A} (t : Nat) (ht : (zTy (gc G))[t]? = some (ca, ty)) (hty : newarray.typeOf atype = ty) (hpr : refKind ty = false) (hw : Cond.arrayClass (newarray.typeOf atype) ∈ zT) (hz : ∀ cA : ClassId, vp_cell cA z = arrV cA N (fun _ => defaultValue ty)) (hn : ¬ n < 0) (hN : n.toNatClampNeg = N) (hby : N * componentBytes ty ≤ 536870912) (hc : cs + 1 ≤ R.cells) (hs : sl + N ≤ R.slots) (hd : decode cc pc = .ok (.newarray atype, 2)) (kk : ∀ q : Nat, gN G ≤ q → h q = none → V p l e R s m args below meth c G nL Q (zup h q (.inl (ca, z))) (cs + 1) (sl + N) (pc + 2) lv (.ref q :: st)) : V p l e R s m args below meth c G nL Q h cs sl pc lv (.int n :: st) := by
  obtain ⟨hx, hb, -, hown, hts, hK, -, hN0, -⟩ := C
  intro H locs ls hP hS hL
  refine hP.new (fun ws p d kw => ?_)
  exact va_newa (a0 := z) hx hb (hts _ hw) hty hK.1 p d hS (fun q hq => Nat.le_trans hN0 hq) hz hn hN hby hc hs hd (fun q cA H1 K1 p1 d1 S1 => by
    have e1 := (K1.2 (zTy (gc G)).length (cA, ty) (by rw [List.getElem?_append_right (Nat.le_refl _), Nat.sub_self]; rfl)).2
    have e2 := (hK.1.2 t _ ht).2
    have e3 : cA = ca := by
      cases ty with
      | object _ => cases hpr
      | _ => exact Option.some.inj (Eq.trans (Eq.symm e1) e2)
    subst e3
    obtain ⟨g1, g2, g3⟩ := kw q _ H1 (Nat.le_trans hN0 S1.1) p1 d1
    exact kk q g1 g2 H1 locs ls g3 S1 hL)
theorem v_newq (C : zOK p l e R s m args below meth c G cc nL own) {index : Nat} {E : String} {ca : ClassId} {n : Int32} {N : Nat} (t : Nat) (ht : (zTy (gc G))[t]? = some (ca, .object E)) (hw : Cond.classLink own index E ∈ zT) (hw2 : Cond.arrayOver (.object E) ∈ zT) (hn : ¬ n < 0) (hN : n.toNatClampNeg = N) (hby : N * 4 ≤ 536870912) (hc : cs + 1 ≤ R.cells) (hs : sl + N ≤ R.slots) (hd : decode cc pc = .ok (.anewarray index, 3)) (kk : ∀ q : Nat, gN G ≤ q → h q = none → V p l e R s m args below meth c G nL Q (zup h q (.inl (ca, N, .inr (.inr (.inr (.inr (fun _ => none))))))) (cs + 1) (sl + N) (pc + 3) lv (.ref q :: st)) : V p l e R s m args below meth c G nL Q h cs sl pc lv (.int n :: st) := by
  obtain ⟨hx, hb, -, hown, hts, hK, -, hN0, -⟩ := C
  intro H locs ls hP hS hL
  refine hP.new (fun ws p d kw => ?_)
  exact va_newq hx hb hown (hts _ hw) (va_AO.of (hts _ hw2)) hK.1 p d hS (fun q hq => Nat.le_trans hN0 hq) hn hN hby hc hs hd (fun q cA H1 K1 p1 d1 S1 => by
    obtain ⟨-, -, -, -, -, e1⟩ := (K1.2 (zTy (gc G)).length (cA, .object E) (by rw [List.getElem?_append_right (Nat.le_refl _), Nat.sub_self]; rfl)).2
    obtain ⟨-, -, -, -, -, e2⟩ := (hK.1.2 t _ ht).2
    cases e1.symm.trans e2
    obtain ⟨g1, g2, g3⟩ := kw q _ H1 (Nat.le_trans hN0 S1.1) p1 d1
    exact kk q g1 g2 H1 locs ls g3 S1 hL)
/-! contracts: from every heap that holds h, the method returns, and the heap holds an h2 of which Post speaks -/
def rmm (n mc ms : Nat) : Room := { frames := n, cells := mc, slots := ms, locals := 40 * n }
def zPre (G : zG) (av : List Value) (h : zH) : Array Value → State → Prop := va_Pc av (fun U => zK G U ∧ zZ G U U.heap ∧ zPw G h U.heap)
def zQ {α : Type} (emb : α → Option Value) (G : zG) (Post : α → zH → Prop) : Array Value → State → Outcome → State → Prop := fun _ st o t => (∃ (r : α) (h2 : zH), o = .returned (emb r) ∧ Post r h2 ∧ zPw G h2 t.heap) ∧ va_F (zA G) st t
def zX (G : zG) (X : String → zH → Prop) : String → State → State → Prop := fun E st t => (∃ h2 : zH, X E h2 ∧ zPw G h2 t.heap) ∧ va_F (zA G) st t
def zMet {α : Type} (emb : α → Option Value) (l : Launch) (y : MethodName) (bytes : ByteArray) (maxL : Nat) (ret : Option FieldType) (n mc ms : Nat) (G : zG) (av : List Value) (h : zH) (Post : α → zH → Prop) : Prop :=
  Met l y (Cond.code y bytes maxL ret :: zT) (rmm n mc ms) (zPre G av h) (zQ emb G Post) mc ms (zA G)
def zMetX {α : Type} (emb : α → Option Value) (l : Launch) (y : MethodName) (bytes : ByteArray) (maxL : Nat) (ret : Option FieldType) (n mc ms : Nat) (G : zG) (av : List Value) (h : zH) (Post : α → zH → Prop) (X : String → zH → Prop) : Prop :=
  vx_Met l y (Cond.code y bytes maxL ret :: zT) (rmm n mc ms) (zPre G av h) (zQ emb G Post) (zX G X) mc ms (zA G)
abbrev eI : Int32 → Option Value := fun x => some (.int x)
abbrev eL : Int64 → Option Value := fun x => some (.long x)
abbrev eR : Nat → Option Value := fun x => some (.ref x)
abbrev eQ : Option Nat → Option Value := fun x => some (va_rf x)
abbrev eV : Unit → Option Value := fun _ => none
theorem zPre_blind {G : zG} {av : List Value} {h : zH} : FrameBlind (zPre G av h) := fun a U g mk q => by
  obtain ⟨q0, qK, qZ, qP⟩ := q
  have hw : U.WarmedH (U.calling g mk a).vm := State.WarmedH.refl U
  exact ⟨q0, qK.moved hw, qZ.moved hw.alike, qP⟩
theorem zTs {y : MethodName} {bytes : ByteArray} {maxL : Nat} {ret : Option FieldType} (hc : Cond.code y bytes maxL ret ∈ zT) : GoodIn zT (Cond.code y bytes maxL ret :: zT) := fun w hw => (List.mem_cons.mp hw).elim (fun e => by rw [e]; exact zT_in _ hc) (zT_in w)
/-- what the tables say of a call: the link, the callee's code -/
def zCS (own : String) (index : Nat) (y : MethodName) (bytes : ByteArray) (maxL : Nat) (ret : Option FieldType) (n : Nat) : Prop := (Cond.methodLink own index y ∈ zT ∨ ∃ host, Cond.methodLinkNest own index y host ∈ zT) ∧ Cond.static y ∈ zT ∧ Cond.initialized y.cls ∈ zT ∧ Cond.code y bytes maxL ret ∈ zT ∧ y.cls ≠ "java/lang/invoke/MethodHandle" ∧ y.cls ≠ "java/lang/invoke/VarHandle" ∧ (parseMethodDescriptor y.desc).map (fun d => d.parameters.length) = some n
def zCV (own : String) (index ci : Nat) (y : MethodName) (bytes : ByteArray) (maxL : Nat) (ret : Option FieldType) (n : Nat) : Prop := ∃ (C : String) (T : u_T) (N : Nat), zCl[ci]? = some (C, T, N) ∧ Cond.methodLink own index y ∈ zT ∧ Cond.instanceMethod y ∈ zT ∧ Cond.selects C y y ∈ zT ∧ Cond.initialized y.cls ∈ zT ∧ Cond.code y bytes maxL ret ∈ zT ∧ y.cls ≠ "java/lang/invoke/MethodHandle" ∧ y.cls ≠ "java/lang/invoke/VarHandle" ∧ (parseMethodDescriptor y.desc).map (fun d => d.parameters.length) = some n
def zCI (own : String) (index : Nat) (y : MethodName) (bytes : ByteArray) (maxL : Nat) (n : Nat) : Prop := (Cond.methodLink own index y ∈ zT ∨ ∃ host, Cond.methodLinkNest own index y host ∈ zT) ∧ Cond.instanceMethod y ∈ zT ∧ y.name = "<init>" ∧ Cond.initialized y.cls ∈ zT ∧ Cond.code y bytes maxL none ∈ zT ∧ y.cls ≠ "java/lang/invoke/MethodHandle" ∧ y.cls ≠ "java/lang/invoke/VarHandle" ∧ (parseMethodDescriptor y.desc).map (fun d => d.parameters.length) = some n
/-- behind a call -/
theorem v_after {α : Type} {emb : α → Option Value} {mc ms : Nat} {st0 rest : List Value} {Post : α → zH → Prop} {a : Array Value} {H : Heap} {locs : List Loc} {ls : Array Slot} (hN : gN G ≤ s.heap.size) (hr : va_Run p l e R s m args below meth c H locs cs sl mc ms (F0 m pc ls st0) rest (zQ emb G Post a) (zA G)) (hS : va_S (zA G) s.heap H locs) (hL : lv_has ls nL lv) (kk : ∀ (r : α) (h2 : zH), Post r h2 → V p l e R s m args below meth c G nL Q h2 (cs + mc) (sl + ms) (pc + 3) lv ((emb r).toList ++ rest)) : W p l e R s m args below meth c H locs cs sl Q (F0 m pc ls st0) := by
  intro T hT X
  obtain ⟨v, st₀, t, T', L, h0, X', hLf, e1, e2, ⟨⟨r, h2, hv, hp, hw⟩, hF⟩, st⟩ := hr T hT X
  cases hv
  obtain ⟨k1, k2, k3⟩ := vx_keep h0 e1 hS (fun q _ hq => hq) (fun q hq => hq) hLf hF
  obtain ⟨t2, a1, b1⟩ := kk r h2 hp T'.heap (locs ++ L) ls (by rw [e1]; exact hw) k3 hL T' rfl X'
  exact ⟨t2, st t2 a1, b1⟩
theorem zPre_at {U : State} {H : Heap} {av : List Value} (C : zOK p l e R s m args below meth c G cc nL own) (hP : zPw G h H) {locs : List Loc} (hS : va_S (zA G) s.heap H locs) (hU : U.heap = H) (hW : s.WarmedH U.vm) : zPre G av h av.toArray U := by
  obtain ⟨-, -, -, -, -, hK, hZ, -⟩ := C
  exact ⟨rfl, hK.moved hW, by rw [hU]; exact (hZ.kept hS.2.1).moved hW.alike, by rw [hU]; exact hP⟩
theorem v_callS {α : Type} {emb : α → Option Value} {y : MethodName} {bytes : ByteArray} {maxL n index fr mc ms : Nat} {ret : Option FieldType} {As st0 rest : List Value} {Post : α → zH → Prop} (C : zOK p l e R s m args below meth c G cc nL own) (hM : zMet emb l y bytes maxL ret fr mc ms G As h Post) (F : zCS own index y bytes maxL ret n) (hn : As.length = n) (hst : st0 = As.reverse ++ rest) (hW : (rest.map fun v => v.category).sum ≤ 8) (hR : fr + 1 ≤ R.frames ∧ 8 + (maxL + 11) + 40 * fr ≤ R.locals) (hf : cs + mc ≤ R.cells ∧ sl + ms ≤ R.slots) (hd : decode cc pc = .ok (.invokestatic index, 3)) (kk : ∀ (r : α) (h2 : zH), Post r h2 → V p l e R s m args below meth c G nL Q h2 (cs + mc) (sl + ms) (pc + 3) lv ((emb r).toList ++ rest)) : V p l e R s m args below meth c G nL Q h cs sl pc lv st0 := by
  obtain ⟨f1, f2, f3, f4, f5, f6, f7⟩ := F
  intro H locs ls hP hS hL
  obtain ⟨hx, hb, hml, hown, hts, hK, hZ, hN, -⟩ := id C
  have pre : PreS s H (zPre G As h) As := ⟨zPre_blind, fun U hU hWm => zPre_at C hP hS hU hWm⟩
  refine v_after (st0 := st0) (rest := rest) (a := As.toArray) hN ?_ hS hL kk
  rcases f1 with f1 | ⟨host, f1⟩
  · exact va_runS ⟨hx, hb, hml, hown, hts⟩ hM ⟨callB_of n hts (zTs f4) rfl rfl rfl (hts _ f3) (hts _ f1) ⟨f5, f6, f7⟩ hR, hts _ f2⟩ pre rfl hn hL.1 hst (lv_room hW) hd hf
  · exact va_runSN ⟨hx, hb, hml, hown, hts⟩ hM ⟨va_cnB n hts (zTs f4) rfl rfl rfl (va_Nw.of rfl (hts _ f1)) (hts _ f3) ⟨f5, f6, f7⟩ hR, hts _ f2, trivial⟩ pre rfl hn hL.1 hst (lv_room hW) hd hf
theorem v_callI {y : MethodName} {bytes : ByteArray} {maxL n index fr mc ms b : Nat} {As st0 rest : List Value} {Post : Unit → zH → Prop} (C : zOK p l e R s m args below meth c G cc nL own) (hM : zMet eV l y bytes maxL none fr mc ms G (.ref b :: As) h Post) (F : zCI own index y bytes maxL n) (hn : As.length = n) (hst : st0 = As.reverse ++ .ref b :: rest) (hW : (rest.map fun v => v.category).sum ≤ 8) (hR : fr + 1 ≤ R.frames ∧ 8 + (maxL + 11) + 40 * fr ≤ R.locals) (hf : cs + mc ≤ R.cells ∧ sl + ms ≤ R.slots) (hd : decode cc pc = .ok (.invokespecial index, 3)) (kk : ∀ (h2 : zH), Post () h2 → V p l e R s m args below meth c G nL Q h2 (cs + mc) (sl + ms) (pc + 3) lv rest) : V p l e R s m args below meth c G nL Q h cs sl pc lv st0 := by
  obtain ⟨f1, f2, f3, f4, f5, f6, f7, f8⟩ := F
  intro H locs ls hP hS hL
  obtain ⟨hx, hb, hml, hown, hts, hK, hZ, hN, -⟩ := id C
  have pre : PreS s H (zPre G (.ref b :: As) h) (.ref b :: As) := ⟨zPre_blind, fun U hU hWm => zPre_at C hP hS hU hWm⟩
  refine v_after (emb := eV) (st0 := st0) (rest := rest) (a := (Value.ref b :: As).toArray) hN ?_ hS hL (fun r h2 hp => kk h2 hp)
  rcases f1 with f1 | ⟨host, f1⟩
  · exact va_runI ⟨hx, hb, hml, hown, hts⟩ hM ⟨callB_of n hts (zTs f5) rfl rfl rfl (hts _ f4) (hts _ f1) ⟨f6, f7, f8⟩ hR, f3, hts _ f2⟩ pre rfl hn hL.1 hst (lv_room hW) hd hf
  · exact va_runIN ⟨hx, hb, hml, hown, hts⟩ hM ⟨va_cnB n hts (zTs f5) rfl rfl rfl (va_Nw.of rfl (hts _ f1)) (hts _ f4) ⟨f6, f7, f8⟩ hR, f3, hts _ f2⟩ pre rfl hn hL.1 hst (lv_room hW) hd hf
theorem v_callV {α : Type} {emb : α → Option Value} {y : MethodName} {bytes : ByteArray} {maxL n index fr mc ms b ci : Nat} {ret : Option FieldType} {As st0 rest fs : List Value} {Post : α → zH → Prop} (C : zOK p l e R s m args below meth c G cc nL own) (hM : zMet emb l y bytes maxL ret fr mc ms G (.ref b :: As) h Post) (F : zCV own index ci y bytes maxL ret n) (ha : h b = some (.inr (ci, fs))) (hn : As.length = n) (hst : st0 = As.reverse ++ .ref b :: rest) (hW : (rest.map fun v => v.category).sum ≤ 8) (hR : fr + 1 ≤ R.frames ∧ 8 + (maxL + 11) + 40 * fr ≤ R.locals) (hf : cs + mc ≤ R.cells ∧ sl + ms ≤ R.slots) (hd : decode cc pc = .ok (.invokevirtual index, 3)) (kk : ∀ (r : α) (h2 : zH), Post r h2 → V p l e R s m args below meth c G nL Q h2 (cs + mc) (sl + ms) (pc + 3) lv ((emb r).toList ++ rest)) : V p l e R s m args below meth c G nL Q h cs sl pc lv st0 := by
  obtain ⟨C', T, N, f0, f1, f2, f3, f4, f5, f6, f7, f8⟩ := F
  intro H locs ls hP hS hL
  obtain ⟨hx, hb, hml, hown, hts, hK, hZ, hN, -⟩ := id C
  have pre : PreV s H C' b (zPre G (.ref b :: As) h) As := ⟨zPre_blind, va_recv hK.1 (hP.one ha) f0 (q0 := 0) rfl, fun U hU hWm => zPre_at C hP hS hU hWm⟩
  refine v_after (st0 := st0) (rest := rest) (a := (Value.ref b :: As).toArray) hN ?_ hS hL kk
  exact va_runV ⟨hx, hb, hml, hown, hts⟩ hM ⟨callB_of n hts (zTs f5) rfl rfl rfl (hts _ f4) (hts _ f1) ⟨f6, f7, f8⟩ hR, hts _ f2, hts _ f3⟩ pre rfl hn hL.1 hst (lv_room hW) hd hf
/-! ends and bodies -/
def zFin {α : Type} (emb : α → Option Value) (p : Program) (l : Launch) (e : Env) (R : Room) (s : State) (m : MethodId) (args : Array Value) (below : List Frame) (meth : Method) (c : Code) (G : zG) (mc ms : Nat) (Post : α → zH → Prop) (Q : State → Prop) : Prop := ∀ (H : Heap) (locs : List Loc) (g : JFrame), W p l e R s m args below meth c H locs mc ms (MQ below (zQ emb G Post) args s mc ms (zA G)) g → W p l e R s m args below meth c H locs mc ms Q g
theorem v_iret (C : zOK p l e R s m args below meth c G cc nL own) {mc ms : Nat} {Post : Int32 → zH → Prop} {ty : FieldType} {r : Int32} (hQ : zFin eI p l e R s m args below meth c G mc ms Post Q) (hr : meth.sig.returnType = some ty) (hn : narrow ty (.int r) = .int r) (hc : cs ≤ mc) (hs : sl ≤ ms) (hd : decode cc pc = .ok (.ireturn, 1)) (hp : Post r h) : V p l e R s m args below meth c G nL Q h cs sl pc lv [.int r] := by
  obtain ⟨hx, hb, -, -, -, -, -, -, hlk, -⟩ := C
  intro H locs ls hP hS hL
  refine W.widen hc hs (hQ _ _ _ ?_)
  exact W.zret hx hb hr hn (fun t ht hW => ⟨⟨r, h, rfl, hp, by rw [ht]; exact hP⟩, hS.F ht⟩) hS.2.2 hd (hlocks := hlk)
theorem v_lret (C : zOK p l e R s m args below meth c G cc nL own) {mc ms : Nat} {Post : Int64 → zH → Prop} {r : Int64} (hQ : zFin eL p l e R s m args below meth c G mc ms Post Q) (hr : meth.sig.returnType = some .long) (hc : cs ≤ mc) (hs : sl ≤ ms) (hd : decode cc pc = .ok (.lreturn, 1)) (hp : Post r h) : V p l e R s m args below meth c G nL Q h cs sl pc lv [.long r] := by
  obtain ⟨hx, hb, -, -, -, -, -, -, hlk, -⟩ := C
  intro H locs ls hP hS hL
  refine W.widen hc hs (hQ _ _ _ ?_)
  exact W.lret hx hb hr (fun t ht hW => ⟨⟨r, h, rfl, hp, by rw [ht]; exact hP⟩, hS.F ht⟩) hS.2.2 hd (hlocks := hlk)
theorem v_vret (C : zOK p l e R s m args below meth c G cc nL own) {mc ms : Nat} {Post : Unit → zH → Prop} (hQ : zFin eV p l e R s m args below meth c G mc ms Post Q) (hr : meth.sig.returnType = none) (hc : cs ≤ mc) (hs : sl ≤ ms) (hd : decode cc pc = .ok (.return_, 1)) (hp : Post () h) : V p l e R s m args below meth c G nL Q h cs sl pc lv [] := by
  obtain ⟨hx, hb, -, -, -, -, -, -, hlk, -⟩ := C
  intro H locs ls hP hS hL
  refine W.widen hc hs (hQ _ _ _ ?_)
  exact W.vret hx hb hr (fun t ht hW => ⟨⟨(), h, rfl, hp, by rw [ht]; exact hP⟩, hS.F ht⟩) hS.2.2 hd (hlocks := hlk)
theorem v_aret (C : zOK p l e R s m args below meth c G cc nL own) {mc ms : Nat} {Post : Nat → zH → Prop} {ty : FieldType} {r : Nat} (hQ : zFin eR p l e R s m args below meth c G mc ms Post Q) (hr : meth.sig.returnType = some ty) (hty : (∃ n, ty = .object n) ∨ ∃ t, ty = .array t) (hc : cs ≤ mc) (hs : sl ≤ ms) (hd : decode cc pc = .ok (.areturn, 1)) (hp : Post r h) : V p l e R s m args below meth c G nL Q h cs sl pc lv [.ref r] := by
  obtain ⟨hx, hb, -, -, -, -, -, -, hlk, -⟩ := C
  intro H locs ls hP hS hL
  refine W.widen hc hs (hQ _ _ _ ?_)
  exact W.aret hx hb hr hty (Or.inr ⟨r, rfl⟩) (fun t ht hW => ⟨⟨r, h, rfl, hp, by rw [ht]; exact hP⟩, hS.F ht⟩) hS.2.2 hd (hlocks := hlk)
end ZR
theorem con_of {α : Type} {emb : α → Option Value} {l : Launch} {y : MethodName} {bytes : ByteArray} {maxL n mc ms : Nat} {ret : Option FieldType} {G : zG} {av : List Value} {h : zH} {Post : α → zH → Prop} (hl : l.stackTraces = false) (own : String) (ho : y.cls = own) (hy : plainFor y = true) (lv0 : List (Nat × Value)) (hlv : lv_args 0 av = lv0) (hav : (lg_sl av).length ≤ maxL)
    (body : ∀ p e s m args below meth c, zOK p l e (rmm n mc ms) s m args below meth c G bytes maxL own → meth.sig.returnType = ret → meth.name = y.name → ∀ Q, zFin emb p l e (rmm n mc ms) s m args below meth c G mc ms Post Q → V p l e (rmm n mc ms) s m args below meth c G maxL Q h 0 0 0 lv0 []) : zMet emb l y bytes maxL ret n mc ms G av h Post := by
  refine va_MetF (cc := bytes) (maxL := maxL) (ret := ret) hy rfl ?_
  intro p e s m args below meth c s₁ B hml hv
  obtain ⟨rfl, hK, hZ, hP⟩ := hv
  have hts : ∀ w ∈ zT, w.before av.toArray s = true := fun w hw => atoms_spec (ws := Cond.code y bytes maxL ret :: zT) B.pre w (List.mem_cons_of_mem _ hw)
  have hown : s.vm.findClass own = some m.cls := by rw [← ho]; exact findClass_of_methodNamed B.named
  have hln := lv_entry av (n := maxL) hav
  rw [lg_entry_eq]
  rw [hlv] at hln
  exact body p e s m av.toArray below meth c ⟨B.exec, B.bytes, hml, hown, hts, hK, hZ, hP.1, B.notSynchronized, hl⟩ B.returns (name_of_methodNamed B.named B.method).1 _ (fun _ _ _ w => w) s.heap [] _ hP va_S.rf hln
theorem con_ofX {α : Type} {emb : α → Option Value} {l : Launch} {y : MethodName} {bytes : ByteArray} {maxL n mc ms : Nat} {ret : Option FieldType} {G : zG} {av : List Value} {h : zH} {Post : α → zH → Prop} {X : String → zH → Prop} (hl : l.stackTraces = false) (own : String) (ho : y.cls = own) (hy : plainName y.cls = true) (lv0 : List (Nat × Value)) (hlv : lv_args 0 av = lv0) (hav : (lg_sl av).length ≤ maxL)
    (body : ∀ p e s m args below meth c, zOK p l e (rmm n mc ms) s m args below meth c G bytes maxL own → meth.sig.returnType = ret → meth.name = y.name → (∀ x ∈ c.exceptionTable.toList, False) → zFin emb p l e (rmm n mc ms) s m args below meth c G mc ms Post (vx_MQ below (zQ emb G Post) (zX G X) args s mc ms (zA G)) → V p l e (rmm n mc ms) s m args below meth c G maxL (vx_MQ below (zQ emb G Post) (zX G X) args s mc ms (zA G)) h 0 0 0 lv0 []) : zMetX emb l y bytes maxL ret n mc ms G av h Post X := by
  refine vx_ofW (cc := bytes) (maxL := maxL) (ret := ret) hy rfl ?_
  intro p e s m args below meth c s₁ B hml hto hv
  obtain ⟨rfl, hK, hZ, hP⟩ := hv
  have hts : ∀ w ∈ zT, w.before av.toArray s = true := fun w hw => atoms_spec (ws := Cond.code y bytes maxL ret :: zT) B.pre w (List.mem_cons_of_mem _ hw)
  have hown : s.vm.findClass own = some m.cls := by rw [← ho]; exact findClass_of_methodNamed B.named
  have hln := lv_entry av (n := maxL) hav
  rw [lg_entry_eq]
  rw [hlv] at hln
  exact body p e s m av.toArray below meth c ⟨B.exec, B.bytes, hml, hown, hts, hK, hZ, hP.1, B.notSynchronized, hl⟩ B.returns (name_of_methodNamed B.named B.method).1 hto (fun _ _ _ w => vx_ret w) s.heap [] _ hP va_S.rf hln
section ZR
variable {p : Program} {l : Launch} {e : Env} {R : Room} {s : State} {m : MethodId} {args : Array Value} {below : List Frame} {meth : Method} {c : Code} {G : zG} {cc : ByteArray} {nL : Nat} {own : String} {Q : State → Prop} {h : zH} {cs sl pc : Nat} {lv : List (Nat × Value)} {st : List Value}
/-! throwing -/
def zThr (own cls text : String) (ik is ic : Nat) : Prop := own = RX4 ∧ Bundle.fit cls = true ∧ Cond.classLink own ik cls ∈ zT ∧ Cond.initialized cls ∈ zT ∧ (∀ w ∈ vx_atS own ic cls ["java/lang/RuntimeException", "java/lang/Exception"], w ∈ zT) ∧ (is, text) ∈ zStrW
theorem zNames : ∀ n ∈ ["java/lang/RuntimeException", "java/lang/Exception"], Bundle.fit n = true := by decide +kernel
theorem vx_ot_zT {w : Cond} (h : w ∈ zT) : vx_ot w = true := by
  simp only [vx_ot, Bool.or_eq_true]
  exact Or.inr (List.mem_filter.mp h).2
theorem zThrHx {G : zG} {h : zH} {X : String → zH → Prop} {H : Heap} {locs : List Loc} {s : State} {cls : String} (hP : zPw G h H) (hS : va_S (zA G) s.heap H locs) (hX : X cls h) : ∀ t : State, s.vm.Alike t.vm → H.size ≤ t.heap.size → (∀ q : Nat, q < H.size → t.heap[q]? = H[q]?) → zX G X cls s t := fun t _ hz hq => ⟨⟨h, hX, hP.kept hz hq⟩, Nat.le_trans hS.1 hz, fun q h1 h2 => (hq q (Nat.lt_of_lt_of_le h1 hS.1)).trans (hS.2.1 q h1 h2)⟩
theorem v_throwS {α : Type} {emb : α → Option Value} (C : zOK p l e R s m args below meth c G cc nL own) {cls text : String} {ik is ic mc ms : Nat} {Post : α → zH → Prop} {X : String → zH → Prop} (F : zThr own cls text ik is ic) (hto : ∀ x ∈ c.exceptionTable.toList, False) (d0 : decode cc pc = .ok (.new ik, 3)) (d3 : decode cc (pc + 3) = .ok (.dup, 1)) (d4 : decode cc (pc + 4) = .ok (.ldc is, 2)) (d6 : decode cc (pc + 6) = .ok (.invokespecial ic, 3)) (d9 : decode cc (pc + 9) = .ok (.athrow, 1)) (hf : 2 + 3 < R.frames) (hlo : (st.map fun v => v.category).sum + 82 ≤ R.locals) (hc : cs + 1 ≤ mc ∧ cs + 1 ≤ R.cells) (hs : sl + 6 ≤ ms ∧ sl + 6 ≤ R.slots) (hX : X cls h) : V p l e R s m args below meth c G nL (vx_MQ below (zQ emb G Post) (zX G X) args s mc ms (zA G)) h cs sl pc lv st := by
  obtain ⟨hx, hb, hml, hown, hts, hK, hZ, hN, hlk, hst⟩ := C
  obtain ⟨f0, f1, f2, f3, f4, f5⟩ := F
  intro H locs ls hP hS hL
  exact vx_throwS hx hb hst hown f1 zNames (hts _ f2) (hts _ f3) (by have q := hK.2 _ f5; rw [f0]; exact q) (fun w hw => hts _ (f4 w hw)) (fun w hw => by
    rcases List.mem_cons.mp hw with rfl | hw
    · exact vx_ot_zT f2
    · rcases List.mem_cons.mp hw with rfl | hw
      · exact vx_ot_zT f3
      · exact vx_ot_zT (f4 w hw)) hZ.2.1.2.1 hZ.2.1.2.2 hS (hL.1.trans hml.symm) d0 d3 d4 d6 d9 (fun x hx => (hto x hx).elim) hf hlo hc.2 hs.2 hlk (zThrHx hP hS hX) hS.2.2 hc.1 hs.1
theorem v_throwSW {α : Type} {emb : α → Option Value} (C : zOK p l e R s m args below meth c G cc nL own) {cls text : String} {ik is ic mc ms : Nat} {Post : α → zH → Prop} {X : String → zH → Prop} (F : zThr own cls text ik is ic) (hto : ∀ x ∈ c.exceptionTable.toList, False) (d0 : decode cc pc = .ok (.new ik, 3)) (d3 : decode cc (pc + 3) = .ok (.dup, 1)) (d4 : decode cc (pc + 4) = .ok (.ldc_w is, 3)) (d6 : decode cc (pc + 7) = .ok (.invokespecial ic, 3)) (d9 : decode cc (pc + 10) = .ok (.athrow, 1)) (hf : 2 + 3 < R.frames) (hlo : (st.map fun v => v.category).sum + 82 ≤ R.locals) (hc : cs + 1 ≤ mc ∧ cs + 1 ≤ R.cells) (hs : sl + 6 ≤ ms ∧ sl + 6 ≤ R.slots) (hX : X cls h) : V p l e R s m args below meth c G nL (vx_MQ below (zQ emb G Post) (zX G X) args s mc ms (zA G)) h cs sl pc lv st := by
  obtain ⟨hx, hb, hml, hown, hts, hK, hZ, hN, hlk, hst⟩ := C
  obtain ⟨f0, f1, f2, f3, f4, f5⟩ := F
  intro H locs ls hP hS hL
  exact vx_throwSW hx hb hst hown f1 zNames (hts _ f2) (hts _ f3) (by have q := hK.2 _ f5; rw [f0]; exact q) (fun w hw => hts _ (f4 w hw)) (fun w hw => by
    rcases List.mem_cons.mp hw with rfl | hw
    · exact vx_ot_zT f2
    · rcases List.mem_cons.mp hw with rfl | hw
      · exact vx_ot_zT f3
      · exact vx_ot_zT (f4 w hw)) hZ.2.1.2.1 hZ.2.1.2.2 hS (hL.1.trans hml.symm) d0 d3 d4 d6 d9 (fun x hx => (hto x hx).elim) hf hlo hc.2 hs.2 hlk (zThrHx hP hS hX) hS.2.2 hc.1 hs.1
/-! statics, constants, casts -/
theorem v_gets (C : zOK p l e R s m args below meth c G cc nL own) {C' n d : String} {v : Value} {index : Nat} (hz : va_Z C' n d v (zA G) s s.heap) (hw : Cond.fieldLink own index C' n d ∈ zT) (hd : decode cc pc = .ok (.getstatic index, 3)) (kk : V p l e R s m args below meth c G nL Q h cs sl (pc + 3) lv (v :: st)) : V p l e R s m args below meth c G nL Q h cs sl pc lv st := fun H locs ls hP hS hL => va_gets C.1 C.2.1 hz hS C.2.2.2.1 (C.2.2.2.2.1 _ hw) (fun _ hx => hx) hd (kk H locs ls hP hS hL)
theorem v_getsq (C : zOK p l e R s m args below meth c G cc nL own) {C' n d : String} {index : Nat} (hz : va_Zq C' n d (zA G) s s.heap) (hw : Cond.fieldLink own index C' n d ∈ zT) (hd : decode cc pc = .ok (.getstatic index, 3)) (kk : ∀ v : Value, (v = .null ∨ ∃ t, v = .ref t) → V p l e R s m args below meth c G nL Q h cs sl (pc + 3) lv (v :: st)) : V p l e R s m args below meth c G nL Q h cs sl pc lv st := by
  rcases hz with hz | ⟨t, hz⟩
  · exact v_gets C hz hw hd (kk _ (Or.inl rfl))
  · exact v_gets C hz hw hd (kk _ (Or.inr ⟨t, rfl⟩))
theorem v_tb (C : zOK p l e R s m args below meth c G cc nL own) {t N : Nat} {f : Nat → Value} {i : Int32} {v : Value} (hT : va_T .byte t N f (zA G) s s.heap) (hin : vp_in i N) (hv : f i.toNatClampNeg = v) (hd : decode cc pc = .ok (.baload, 1)) (kk : V p l e R s m args below meth c G nL Q h cs sl (pc + 1) lv (v :: st)) : V p l e R s m args below meth c G nL Q h cs sl pc lv (.int i :: .ref t :: st) := fun H locs ls hP hS hL => va_tb C.1 C.2.1 hT hS hin hv hd (kk H locs ls hP hS hL)
theorem v_tlen (C : zOK p l e R s m args below meth c G cc nL own) {t N : Nat} {f : Nat → Value} {ty : FieldType} {v : Int32} (hT : va_T ty t N f (zA G) s s.heap) (hv : Int32.ofNat N = v) (hd : decode cc pc = .ok (.arraylength, 1)) (kk : V p l e R s m args below meth c G nL Q h cs sl (pc + 1) lv (.int v :: st)) : V p l e R s m args below meth c G nL Q h cs sl pc lv (.ref t :: st) := fun H locs ls hP hS hL => va_tlen C.1 C.2.1 hT hS hv hd (kk H locs ls hP hS hL)
theorem v_ldcS (C : zOK p l e R s m args below meth c G cc nL own) {index : Nat} {tx : String} (ho : own = RX4) (hq : (index, tx) ∈ zStrW) (hd : decode cc pc = .ok (.ldc index, 2)) (kk : V p l e R s m args below meth c G nL Q h cs sl (pc + 2) lv (.ref (gs G index) :: st)) : V p l e R s m args below meth c G nL Q h cs sl pc lv st := fun H locs ls hP hS hL => va_ldcS C.1 C.2.1 C.2.2.2.1 (by have q := C.2.2.2.2.2.1.2 _ hq; rw [ho]; exact q) hd (kk H locs ls hP hS hL)
def zCast (own : String) (index ci : Nat) : Prop := ∃ (C : String) (T : u_T) (N : Nat), zCl[ci]? = some (C, T, N) ∧ Cond.classLink own index C ∈ zT
theorem v_chk (C : zOK p l e R s m args below meth c G cc nL own) {a index ci : Nat} {fs : List Value} (F : zCast own index ci) (ha : h a = some (.inr (ci, fs))) (hd : decode cc pc = .ok (.checkcast index, 3)) (kk : V p l e R s m args below meth c G nL Q h cs sl (pc + 3) lv (.ref a :: st)) : V p l e R s m args below meth c G nL Q h cs sl pc lv (.ref a :: st) := by
  obtain ⟨C', T, N, f1, f2⟩ := F
  intro H locs ls hP hS hL
  exact va_castE C.1 C.2.1 C.2.2.2.1 (C.2.2.2.2.1 _ f2) (va_recv C.2.2.2.2.2.1.1 (hP.one ha) f1 (q0 := 0) rfl) hd (kk H locs ls hP hS hL)
/-! texts: a String made here, or a constant -/
def zTB (G : zG) (h : zH) (b n : Nat) (f : Nat → Int32) : Prop := h b = some (.inl (gc G 2, n, .inl f)) ∨ ∃ q ∈ zCon, b = gb G q.1 ∧ n = q.2.length ∧ f = fun j => nI (q.2.getD j 0)
def zTx (G : zG) (h : zH) (a b n : Nat) (f : Nat → Int32) : Prop := (h a = some (.inr (0, [.ref b, .int 0, .int 0, .int 0])) ∧ h b = some (.inl (gc G 2, n, .inl f))) ∨ ∃ q ∈ zCon, a = gs G q.1 ∧ b = gb G q.1 ∧ n = q.2.length ∧ f = fun j => nI (q.2.getD j 0)
theorem zTx.tb {G : zG} {h : zH} {a b n : Nat} {f : Nat → Int32} (ht : zTx G h a b n f) : zTB G h b n f := by
  rcases ht with ⟨-, ht⟩ | ⟨q, hq, -, h2, h3, h4⟩
  · exact Or.inl ht
  · exact Or.inr ⟨q, hq, h2, h3, h4⟩
theorem zTx.ext {G : zG} {h h2 : zH} {a b n : Nat} {f : Nat → Int32} (ht : zTx G h a b n f) (hx : ∀ a e, h a = some e → h2 a = some e) : zTx G h2 a b n f := by
  rcases ht with ⟨h1, ht⟩ | ht
  · exact Or.inl ⟨hx _ _ h1, hx _ _ ht⟩
  · exact Or.inr ht
theorem zTB.ext {G : zG} {h h2 : zH} {b n : Nat} {f : Nat → Int32} (ht : zTB G h b n f) (hx : ∀ a e, h a = some e → h2 a = some e) : zTB G h2 b n f := by
  rcases ht with h1 | ht
  · exact Or.inl (hx _ _ h1)
  · exact Or.inr ht
theorem zTx.recv {a b n : Nat} {f : Nat → Int32} {H : Heap} {locs : List Loc} (C : zOK p l e R s m args below meth c G cc nL own) (ht : zTx G h a b n f) (hP : zPw G h H) (hS : va_S (zA G) s.heap H locs) : ∃ cell : Cell, H[a]? = some cell ∧ cell.vm.isStatics = false ∧ s.vm.findClass RJ0 = some cell.cls := by
  rcases ht with ⟨h1, -⟩ | ⟨q, hq, rfl, -⟩
  · exact va_recv C.2.2.2.2.2.1.1 (hP.one h1) (q := (RJ0, TJ0, 4)) rfl (q0 := 0) rfl
  · obtain ⟨cell, h1, h2, h3, -⟩ := (C.2.2.2.2.2.2.1.2.2 q hq).1.kept hS.2.1
    exact ⟨cell, h1, h2, h3⟩
theorem v_getSV (C : zOK p l e R s m args below meth c G cc nL own) {a b n index : Nat} {f : Nat → Int32} (ht : zTx G h a b n f) (F : zFld own index 0 0) (hw : Cond.fieldLink own index "java/lang/String" "value" "[B" ∈ zT) (hd : decode cc pc = .ok (.getfield index, 3)) (kk : V p l e R s m args below meth c G nL Q h cs sl (pc + 3) lv (.ref b :: st)) : V p l e R s m args below meth c G nL Q h cs sl pc lv (.ref a :: st) := by
  rcases ht with ⟨h1, -⟩ | ⟨q, hq, rfl, rfl, -⟩
  · exact v_get C F h1 rfl hd kk
  · exact fun H locs ls hP hS hL => vk_getf C.1 C.2.1 (C.2.2.2.2.2.2.1.2.2 q hq).2.2.1 hS C.2.2.2.1 (C.2.2.2.2.1 _ hw) (fun _ hx => hx) hd (kk H locs ls hP hS hL)
theorem v_getSC (C : zOK p l e R s m args below meth c G cc nL own) {a b n index : Nat} {f : Nat → Int32} (ht : zTx G h a b n f) (F : zFld own index 0 1) (hw : Cond.fieldLink own index "java/lang/String" "coder" "B" ∈ zT) (hd : decode cc pc = .ok (.getfield index, 3)) (kk : V p l e R s m args below meth c G nL Q h cs sl (pc + 3) lv (.int 0 :: st)) : V p l e R s m args below meth c G nL Q h cs sl pc lv (.ref a :: st) := by
  rcases ht with ⟨h1, -⟩ | ⟨q, hq, rfl, rfl, -⟩
  · exact v_get C F h1 rfl hd kk
  · exact fun H locs ls hP hS hL => vk_getf C.1 C.2.1 (C.2.2.2.2.2.2.1.2.2 q hq).2.1 hS C.2.2.2.1 (C.2.2.2.2.1 _ hw) (fun _ hx => hx) hd (kk H locs ls hP hS hL)
theorem v_alenT (C : zOK p l e R s m args below meth c G cc nL own) {b n : Nat} {f : Nat → Int32} (ht : zTB G h b n f) (hd : decode cc pc = .ok (.arraylength, 1)) (kk : V p l e R s m args below meth c G nL Q h cs sl (pc + 1) lv (.int (nI n) :: st)) : V p l e R s m args below meth c G nL Q h cs sl pc lv (.ref b :: st) := by
  rcases ht with h1 | ⟨q, hq, rfl, rfl, -⟩
  · exact v_alen C 2 rfl h1 rfl hd kk
  · exact v_tlen C (C.2.2.2.2.2.2.1.2.2 q hq).2.2.2 rfl hd kk
theorem v_baldT (C : zOK p l e R s m args below meth c G cc nL own) {b n : Nat} {f : Nat → Int32} {i : Int32} (ht : zTB G h b n f) (hin : vp_in i n) (hd : decode cc pc = .ok (.baload, 1)) (kk : V p l e R s m args below meth c G nL Q h cs sl (pc + 1) lv (.int (f i.toNatClampNeg) :: st)) : V p l e R s m args below meth c G nL Q h cs sl pc lv (.int i :: .ref b :: st) := by
  rcases ht with h1 | ⟨q, hq, rfl, rfl, rfl⟩
  · exact v_bald C h1 hin hd kk
  · exact v_tb C (C.2.2.2.2.2.2.1.2.2 q hq).2.2.2 hin rfl hd kk
def zCpy (own : String) (index : Nat) : Prop := Cond.methodLink own index arraycopyName ∈ zT ∧ Cond.native arraycopyName ∈ zT ∧ Cond.static arraycopyName ∈ zT ∧ Cond.initialized "java/lang/System" ∈ zT
theorem v_copyT (C : zOK p l e R s m args below meth c G cc nL own) {a b n0 n1 index : Nat} {f g : Nat → Int32} {sp dp n : Int32} (F : zCpy own index) (ht : zTB G h b n0 f) (ha : h a = some (.inl (gc G 2, n1, .inl g))) (h1 : ¬ sp < 0) (h2 : ¬ dp < 0) (h3 : ¬ n < 0) (h4 : sp.toNatClampNeg + n.toNatClampNeg ≤ n0) (h5 : dp.toNatClampNeg + n.toNatClampNeg ≤ n1) (hfit : ∀ i : Nat, i < n.toNatClampNeg → fits .byte (.int (f (sp.toNatClampNeg + i))) = true) (hfr : 1 ≤ R.frames) (hlo : (st.map fun v => v.category).sum + (nativeFrameWords "java/lang/System" "arraycopy" 5 + 11) ≤ R.locals) (hd : decode cc pc = .ok (.invokestatic index, 3)) (kk : V p l e R s m args below meth c G nL Q (zup h a (.inl (gc G 2, n1, .inl (va_cpy f g sp.toNatClampNeg dp.toNatClampNeg n.toNatClampNeg)))) cs sl (pc + 3) lv st) : V p l e R s m args below meth c G nL Q h cs sl pc lv (.int n :: .int dp :: .ref a :: .int sp :: .ref b :: st) := by
  obtain ⟨w1, w2, w3, w4⟩ := F
  obtain ⟨hx, hb, hml, hown, hts, hK, hZ, hN, -⟩ := C
  intro H locs ls hP hS hL
  rcases ht with hb1 | ⟨q, hq, rfl, rfl, rfl⟩
  · exact hP.put2 ha hb1 (fun ws q0 q1 p d hq0 hq1 kw => va_copyi hx hb (hml.trans hL.1.symm) hown (hts _ w1) (hts _ w2) (hts _ w3) (hts _ w4) hK.1 p d hS q1 q0 2 2 hq1 hq0 rfl rfl rfl h1 h2 h3 h4 h5 hfit hfr hlo hd (fun H1 locs1 p1 d1 S1 => kk H1 locs1 ls (kw H1 (Nat.le_trans hN S1.1) p1 d1) S1 hL))
  · exact hP.put ha (fun ws q0 p d hq0 kw => vk_copyt hx hb (hml.trans hL.1.symm) hown (hts _ w1) (hts _ w2) (hts _ w3) (hts _ w4) hK.1 p d hS (hZ.2.2 q hq).2.2.2 q0 2 hq0 rfl h1 h2 h3 h4 h5 hfit hfr hlo hd (fun H1 locs1 p1 d1 S1 => kk H1 locs1 ls (kw H1 (Nat.le_trans hN S1.1) p1 d1) S1 hL))
theorem v_callT {α : Type} {emb : α → Option Value} {y : MethodName} {bytes : ByteArray} {maxL n index fr mc ms a b nn : Nat} {ff : Nat → Int32} {ret : Option FieldType} {As st0 rest : List Value} {Post : α → zH → Prop} (C : zOK p l e R s m args below meth c G cc nL own) (hM : zMet emb l y bytes maxL ret fr mc ms G (.ref a :: As) h Post) (F : zCV own index 0 y bytes maxL ret n) (ht : zTx G h a b nn ff) (hn : As.length = n) (hst : st0 = As.reverse ++ .ref a :: rest) (hW : (rest.map fun v => v.category).sum ≤ 8) (hR : fr + 1 ≤ R.frames ∧ 8 + (maxL + 11) + 40 * fr ≤ R.locals) (hf : cs + mc ≤ R.cells ∧ sl + ms ≤ R.slots) (hd : decode cc pc = .ok (.invokevirtual index, 3)) (kk : ∀ (r : α) (h2 : zH), Post r h2 → V p l e R s m args below meth c G nL Q h2 (cs + mc) (sl + ms) (pc + 3) lv ((emb r).toList ++ rest)) : V p l e R s m args below meth c G nL Q h cs sl pc lv st0 := by
  obtain ⟨C', T, N, f0, f1, f2, f3, f4, f5, f6, f7, f8⟩ := F
  cases f0
  intro H locs ls hP hS hL
  obtain ⟨hx, hb, hml, hown, hts, hK, hZ, hN, -⟩ := id C
  have pre : PreV s H RJ0 a (zPre G (.ref a :: As) h) As := ⟨zPre_blind, ht.recv C hP hS, fun U hU hWm => zPre_at C hP hS hU hWm⟩
  refine v_after (st0 := st0) (rest := rest) (a := (Value.ref a :: As).toArray) hN ?_ hS hL kk
  exact va_runV ⟨hx, hb, hml, hown, hts⟩ hM ⟨callB_of n hts (zTs f5) rfl rfl rfl (hts _ f4) (hts _ f1) ⟨f6, f7, f8⟩ hR, hts _ f2, hts _ f3⟩ pre rfl hn hL.1 hst (lv_room hW) hd hf
/-! super calls, inherited methods, Math, two-dimensional arrays -/
def zCSU (own : String) (index ci : Nat) (y : MethodName) (bytes : ByteArray) (maxL : Nat) (ret : Option FieldType) (n : Nat) : Prop := ∃ (C : String) (T : u_T) (N : Nat), zCl[ci]? = some (C, T, N) ∧ Cond.methodLink own index y ∈ zT ∧ Cond.sameMethod y.cls y.cls y.name y.desc ∈ zT ∧ Cond.superclass own y.cls ∈ zT ∧ Cond.instanceMethod y ∈ zT ∧ Cond.initialized y.cls ∈ zT ∧ Cond.code y bytes maxL ret ∈ zT ∧ y.name ≠ "<init>" ∧ (parseMethodDescriptor y.desc).map (fun d => d.parameters.length) = some n
theorem v_callSU {α : Type} {emb : α → Option Value} {y : MethodName} {bytes : ByteArray} {maxL n index fr mc ms b ci : Nat} {ret : Option FieldType} {As st0 rest fs : List Value} {Post : α → zH → Prop} (C : zOK p l e R s m args below meth c G cc nL own) (hM : zMet emb l y bytes maxL ret fr mc ms G (.ref b :: As) h Post) (F : zCSU own index ci y bytes maxL ret n) (ha : h b = some (.inr (ci, fs))) (hn : As.length = n) (hst : st0 = As.reverse ++ .ref b :: rest) (hW : (rest.map fun v => v.category).sum ≤ 8) (hR : fr + 1 ≤ R.frames ∧ 8 + (maxL + 11) + 40 * fr ≤ R.locals) (hf : cs + mc ≤ R.cells ∧ sl + ms ≤ R.slots) (hd : decode cc pc = .ok (.invokespecial index, 3)) (kk : ∀ (r : α) (h2 : zH), Post r h2 → V p l e R s m args below meth c G nL Q h2 (cs + mc) (sl + ms) (pc + 3) lv ((emb r).toList ++ rest)) : V p l e R s m args below meth c G nL Q h cs sl pc lv st0 := by
  obtain ⟨C', T, N, f0, f1, f2, f3, f4, f5, f6, f7, f8⟩ := F
  intro H locs ls hP hS hL
  obtain ⟨hx, hb, hml, hown, hts, hK, hZ, hN, -⟩ := id C
  have pre : PreV s H C' b (zPre G (.ref b :: As) h) As := ⟨zPre_blind, va_recv hK.1 (hP.one ha) f0 (q0 := 0) rfl, fun U hU hWm => zPre_at C hP hS hU hWm⟩
  refine v_after (st0 := st0) (rest := rest) (a := (Value.ref b :: As).toArray) hN ?_ hS hL kk
  refine va_runSU (hK.1.1 ci _ f0).2 ⟨hx, hb, hml, hown, hts⟩ hM (va_cwSU n hts (fun w hw => ?_) rfl rfl rfl ⟨f7, f8⟩ hR) pre rfl hn hL.1 hst (lv_room hW) hd hf
  unfold va_wsSU at hw
  rcases List.mem_append.mp hw with hw | hw
  · simp only [List.mem_cons, List.not_mem_nil, or_false] at hw
    rcases hw with rfl | rfl | rfl | rfl | rfl
    · exact zT_in _ f1
    · exact zT_in _ f2
    · exact zT_in _ f3
    · exact zT_in _ f4
    · exact zT_in _ f5
  · exact zTs f6 w hw
def zCU (own : String) (index ci : Nat) (owner : String) (x y : MethodName) (bytes : ByteArray) (maxL : Nat) (ret : Option FieldType) (n : Nat) : Prop := ∃ (C : String) (T : u_T) (N : Nat), zCl[ci]? = some (C, T, N) ∧ Cond.methodLink own index x ∈ zT ∧ Cond.sameMethod x.cls owner x.name x.desc ∈ zT ∧ Cond.selects C x y ∈ zT ∧ Cond.instanceMethod y ∈ zT ∧ Cond.initialized y.cls ∈ zT ∧ Cond.code y bytes maxL ret ∈ zT ∧ y = ⟨owner, x.name, x.desc⟩ ∧ owner ≠ "java/lang/invoke/MethodHandle" ∧ owner ≠ "java/lang/invoke/VarHandle" ∧ (parseMethodDescriptor x.desc).map (fun d => d.parameters.length) = some n
theorem v_callU {α : Type} {emb : α → Option Value} {x y : MethodName} {bytes : ByteArray} {maxL n index fr mc ms b ci : Nat} {owner : String} {ret : Option FieldType} {As st0 rest fs : List Value} {Post : α → zH → Prop} (C : zOK p l e R s m args below meth c G cc nL own) (hM : zMet emb l y bytes maxL ret fr mc ms G (.ref b :: As) h Post) (F : zCU own index ci owner x y bytes maxL ret n) (ha : h b = some (.inr (ci, fs))) (hn : As.length = n) (hst : st0 = As.reverse ++ .ref b :: rest) (hW : (rest.map fun v => v.category).sum ≤ 8) (hR : fr + 1 ≤ R.frames ∧ 8 + (maxL + 11) + 40 * fr ≤ R.locals) (hf : cs + mc ≤ R.cells ∧ sl + ms ≤ R.slots) (hd : decode cc pc = .ok (.invokevirtual index, 3)) (kk : ∀ (r : α) (h2 : zH), Post r h2 → V p l e R s m args below meth c G nL Q h2 (cs + mc) (sl + ms) (pc + 3) lv ((emb r).toList ++ rest)) : V p l e R s m args below meth c G nL Q h cs sl pc lv st0 := by
  obtain ⟨C', T, N, f0, f1, f2, f3, f4, f5, f6, f7, f8, f9, f10⟩ := F
  intro H locs ls hP hS hL
  obtain ⟨hx, hb, hml, hown, hts, hK, hZ, hN, -⟩ := id C
  have pre : PreV s H C' b (zPre G (.ref b :: As) h) As := ⟨zPre_blind, va_recv hK.1 (hP.one ha) f0 (q0 := 0) rfl, fun U hU hWm => zPre_at C hP hS hU hWm⟩
  refine v_after (st0 := st0) (rest := rest) (a := (Value.ref b :: As).toArray) hN ?_ hS hL kk
  refine va_runU ⟨hx, hb, hml, hown, hts⟩ hM (va_cwU n hts (fun w hw => ?_) rfl rfl rfl f7 ⟨f8, f9, f10⟩ hR) pre rfl hn hL.1 hst (lv_room hW) hd hf
  unfold va_wsU at hw
  rcases List.mem_append.mp hw with hw | hw
  · simp only [List.mem_cons, List.not_mem_nil, or_false] at hw
    rcases hw with rfl | rfl | rfl | rfl | rfl
    · exact zT_in _ f1
    · exact zT_in _ f2
    · exact zT_in _ f3
    · exact zT_in _ f4
    · exact zT_in _ f5
  · exact zTs f6 w hw
def zM_mmax (own : String) (index : Nat) : Prop := Cond.methodLink own index Lib.Math.max.name ∈ zT ∧ Cond.static Lib.Math.max.name ∈ zT ∧ Cond.initialized "java/lang/Math" ∈ zT ∧ Cond.code Lib.Math.max.name Lib.Math.max.code 2 (some .int) ∈ zT
theorem v_mmax (C : zOK p l e R s m args below meth c G cc nL own) {index : Nat} {x y : Int32} (F : zM_mmax own index) (hfr : 1 ≤ R.frames) (hlo : (st.map fun v => v.category).sum + 13 ≤ R.locals) (hc : cs ≤ R.cells) (hs : sl ≤ R.slots) (hd : decode cc pc = .ok (.invokestatic index, 3)) (kk : V p l e R s m args below meth c G nL Q h cs sl (pc + 3) lv (.int (if x < y then y else x) :: st)) : V p l e R s m args below meth c G nL Q h cs sl pc lv (.int y :: .int x :: st) := fun H locs ls hP hS hL => va_mmax C.1 C.2.1 (C.2.2.1.trans hL.1.symm) C.2.2.2.1 (C.2.2.2.2.1 _ F.1) (C.2.2.2.2.1 _ F.2.1) (C.2.2.2.2.1 _ F.2.2.1) (C.2.2.2.2.1 _ F.2.2.2) hfr hlo hc hs hd (kk H locs ls hP hS hL)
def zM_mmin (own : String) (index : Nat) : Prop := Cond.methodLink own index Lib.Math.min.name ∈ zT ∧ Cond.static Lib.Math.min.name ∈ zT ∧ Cond.initialized "java/lang/Math" ∈ zT ∧ Cond.code Lib.Math.min.name Lib.Math.min.code 2 (some .int) ∈ zT
theorem v_mmin (C : zOK p l e R s m args below meth c G cc nL own) {index : Nat} {x y : Int32} (F : zM_mmin own index) (hfr : 1 ≤ R.frames) (hlo : (st.map fun v => v.category).sum + 13 ≤ R.locals) (hc : cs ≤ R.cells) (hs : sl ≤ R.slots) (hd : decode cc pc = .ok (.invokestatic index, 3)) (kk : V p l e R s m args below meth c G nL Q h cs sl (pc + 3) lv (.int (if y < x then y else x) :: st)) : V p l e R s m args below meth c G nL Q h cs sl pc lv (.int y :: .int x :: st) := fun H locs ls hP hS hL => va_mmin C.1 C.2.1 (C.2.2.1.trans hL.1.symm) C.2.2.2.1 (C.2.2.2.2.1 _ F.1) (C.2.2.2.2.1 _ F.2.1) (C.2.2.2.2.1 _ F.2.2.1) (C.2.2.2.2.1 _ F.2.2.2) hfr hlo hc hs hd (kk H locs ls hP hS hL)
def zM_mmax_long (own : String) (index : Nat) : Prop := Cond.methodLink own index Lib.MathLoose.max_long.x ∈ zT ∧ Cond.static Lib.MathLoose.max_long.x ∈ zT ∧ Cond.initialized "java/lang/Math" ∈ zT ∧ Cond.code Lib.MathLoose.max_long.x Lib.MathLoose.max_long.code 4 (some .long) ∈ zT
theorem v_mmax_long (C : zOK p l e R s m args below meth c G cc nL own) {index : Nat} {x y : Int64} (F : zM_mmax_long own index) (hfr : 1 ≤ R.frames) (hlo : (st.map fun v => v.category).sum + 15 ≤ R.locals) (hc : cs ≤ R.cells) (hs : sl ≤ R.slots) (hd : decode cc pc = .ok (.invokestatic index, 3)) (kk : V p l e R s m args below meth c G nL Q h cs sl (pc + 3) lv (.long (if y < x then x else y) :: st)) : V p l e R s m args below meth c G nL Q h cs sl pc lv (.long y :: .long x :: st) := fun H locs ls hP hS hL => va_mmax_long C.1 C.2.1 (C.2.2.1.trans hL.1.symm) C.2.2.2.1 (C.2.2.2.2.1 _ F.1) (C.2.2.2.2.1 _ F.2.1) (C.2.2.2.2.1 _ F.2.2.1) (C.2.2.2.2.1 _ F.2.2.2) hfr hlo hc hs hd (kk H locs ls hP hS hL)
def zM_mmin_long (own : String) (index : Nat) : Prop := Cond.methodLink own index Lib.MathLoose.min_long.x ∈ zT ∧ Cond.static Lib.MathLoose.min_long.x ∈ zT ∧ Cond.initialized "java/lang/Math" ∈ zT ∧ Cond.code Lib.MathLoose.min_long.x Lib.MathLoose.min_long.code 4 (some .long) ∈ zT
theorem v_mmin_long (C : zOK p l e R s m args below meth c G cc nL own) {index : Nat} {x y : Int64} (F : zM_mmin_long own index) (hfr : 1 ≤ R.frames) (hlo : (st.map fun v => v.category).sum + 15 ≤ R.locals) (hc : cs ≤ R.cells) (hs : sl ≤ R.slots) (hd : decode cc pc = .ok (.invokestatic index, 3)) (kk : V p l e R s m args below meth c G nL Q h cs sl (pc + 3) lv (.long (if y < x then y else x) :: st)) : V p l e R s m args below meth c G nL Q h cs sl pc lv (.long y :: .long x :: st) := fun H locs ls hP hS hL => va_mmin_long C.1 C.2.1 (C.2.2.1.trans hL.1.symm) C.2.2.2.1 (C.2.2.2.2.1 _ F.1) (C.2.2.2.2.1 _ F.2.1) (C.2.2.2.2.1 _ F.2.2.1) (C.2.2.2.2.1 _ F.2.2.2) hfr hlo hc hs hd (kk H locs ls hP hS hL)
def zLL (G : zG) (h : zH) (q : Nat) (r : Nat → Nat) (n k : Nat) : zH := fun a => if a = q then some (.inl (gc G 7, n, .inr (.inr (.inr (.inr (fun i => if i < n then some (r i) else none)))))) else if a ∈ (List.range n).map r then some (.inl (gc G 1, k, .inr (.inl (fun _ => 0)))) else h a
theorem v_mna (C : zOK p l e R s m args below meth c G cc nL own) {index : Nat} {n k : Int32} {N K : Nat} (hw : Cond.classLink own index "[[J" ∈ zT) (hw2 : Cond.arrayOver (.array .long) ∈ zT) (hw3 : Cond.arrayClass .long ∈ zT) (hn : ¬ n < 0) (hk : ¬ k < 0) (hN : n.toNatClampNeg = N) (hM : k.toNatClampNeg = K) (hb1 : N * 4 ≤ 536870912) (hb2 : K * 8 ≤ 536870912) (hc : cs + (1 + N) ≤ R.cells) (hs : sl + (N + N * K) ≤ R.slots) (hd : decode cc pc = .ok (.multianewarray index 2, 4)) (kk : ∀ (q : Nat) (r : Nat → Nat), gN G ≤ q → h q = none → (∀ i, i < N → gN G ≤ r i ∧ h (r i) = none ∧ r i ≠ q) → (∀ i j, i < N → j < N → r i = r j → i = j) → V p l e R s m args below meth c G nL Q (zLL G h q r N K) (cs + 1 + N) (sl + N + N * K) (pc + 4) lv (.ref q :: st)) : V p l e R s m args below meth c G nL Q h cs sl pc lv (.int k :: .int n :: st) := by
  obtain ⟨hx, hb, -, hown, hts, hK, -, hN0, -⟩ := C
  intro H locs ls hP hS hL
  obtain ⟨n0, L, f, p0, d0, k0⟩ := id hP
  have e1 := (hK.1.2 1 _ rfl).2
  refine va_mna (X := []) (L := L) (f := f) (cy := gc G 1) (ty := .long) (z := (K, .inr (.inl (fun _ => 0)))) hx hb hown (hts _ hw) (hts _ hw2) (hts _ hw3) e1 hK.1 p0 d0 hS (fun q hq => Nat.le_trans hN0 hq) hn hk hN hM hb1 hb2 (by have : K * 8 ≤ 536870912 := hb2; omega) rfl rfl hc hs (fun c => arrV_new c K _) hd (fun q r cA H1 hinj hrL K1 p1 d1 S1 => ?_)
  have e2 := (K1.2 (zTy (gc G)).length (cA, .array .long) (by rw [List.getElem?_append_right (Nat.le_refl _), Nat.sub_self]; rfl)).2
  have e3 := (hK.1.2 7 _ rfl).2
  cases Option.some.inj (e2.symm.trans e3)
  have hrow : ∀ a, a ∈ (List.range N).map r → ∃ i, i < N ∧ r i = a := fun a ha => by
    obtain ⟨i, hi, rfl⟩ := List.mem_map.mp ha
    exact ⟨i, List.mem_range.mp hi, rfl⟩
  generalize ho : (Sum.inl (gc G 7, N, .inr (.inr (.inr (.inr (fun i => if i < N then some (r i) else none))))) : va_E) = eo at p1 d1
  have hl1 : ([] ++ [(q, eo)] : va_W).length = 1 := rfl
  have hq0 : (([] ++ [(q, eo)]) ++ va_pl (L ++ (List.range N).map r) (vr_up f ((List.range N).map r) (.inl (gc G 1, K, .inr (.inl (fun _ => 0))))))[0]? = some (q, eo) := rfl
  have hqN : q ∉ L ++ (List.range N).map r := fun hq => by
    obtain ⟨i, hi⟩ := va_pl_get (X := []) (f := vr_up f ((List.range N).map r) (.inl (gc G 1, K, .inr (.inl (fun _ => 0))))) hq
    have h2 : (([] ++ [(q, eo)]) ++ va_pl (L ++ (List.range N).map r) (vr_up f ((List.range N).map r) (.inl (gc G 1, K, .inr (.inl (fun _ => 0))))))[i + 1]? = some (q, vr_up f ((List.range N).map r) (.inl (gc G 1, K, .inr (.inl (fun _ => 0)))) q) := by
      rw [List.getElem?_append_right (by rw [hl1]; omega)]
      exact hi
    have := d1.1 0 (i + 1) _ _ hq0 h2 rfl
    omega
  have hqA : gN G ≤ q := d1.2 0 _ hq0
  have hnoneL : ∀ a, a ∉ L → h a = none := fun a ha => by
    cases hh : h a with
    | none => rfl
    | some x => exact absurd (k0 a x hh).1 ha
  have hrA : ∀ a, a ∈ (List.range N).map r → gN G ≤ a := fun a ha => by
    obtain ⟨i, hi⟩ := va_pl_get (X := [] ++ [(q, eo)]) (f := vr_up f ((List.range N).map r) (.inl (gc G 1, K, .inr (.inl (fun _ => 0))))) (List.mem_append_right L ha)
    exact d1.2 i _ hi
  have hmem : ∀ i, i < N → r i ∈ (List.range N).map r := fun i hi => List.mem_map.mpr ⟨i, List.mem_range.mpr hi, rfl⟩
  refine kk q r hqA (hnoneL q (fun hq => hqN (List.mem_append_left _ hq))) (fun i hi => ⟨hrA _ (hmem i hi), hnoneL _ (hrL i hi), fun e => hqN (by rw [← e]; exact List.mem_append_right _ (hmem i hi))⟩) hinj H1 locs ls ?_ S1 hL
  refine ⟨Nat.le_trans hN0 S1.1, q :: (L ++ (List.range N).map r), va_up (vr_up f ((List.range N).map r) (.inl (gc G 1, K, .inr (.inl (fun _ => 0))))) q eo, ?_, ?_, ?_⟩
  · have es : va_pl (q :: (L ++ (List.range N).map r)) (va_up (vr_up f ((List.range N).map r) (.inl (gc G 1, K, .inr (.inl (fun _ => 0))))) q eo) = ([] ++ [(q, eo)]) ++ va_pl (L ++ (List.range N).map r) (vr_up f ((List.range N).map r) (.inl (gc G 1, K, .inr (.inl (fun _ => 0))))) := by
      show (q, va_up _ q eo q) :: _ = (q, eo) :: _
      rw [va_up_self]
      congr 1
      exact List.map_congr_left (fun b hb => by rw [va_up_ne _ _ (show b ≠ q from fun e => hqN (by rw [← e]; exact hb))])
    rw [es]; exact p1
  · have es : va_pl (q :: (L ++ (List.range N).map r)) (va_up (vr_up f ((List.range N).map r) (.inl (gc G 1, K, .inr (.inl (fun _ => 0))))) q eo) = ([] ++ [(q, eo)]) ++ va_pl (L ++ (List.range N).map r) (vr_up f ((List.range N).map r) (.inl (gc G 1, K, .inr (.inl (fun _ => 0))))) := by
      show (q, va_up _ q eo q) :: _ = (q, eo) :: _
      rw [va_up_self]
      congr 1
      exact List.map_congr_left (fun b hb => by rw [va_up_ne _ _ (show b ≠ q from fun e => hqN (by rw [← e]; exact hb))])
    rw [es]; exact d1
  · intro a x hax
    unfold zLL at hax
    by_cases h1 : a = q
    · subst h1
      rw [if_pos rfl, ho] at hax
      cases hax
      exact ⟨List.mem_cons_self, va_up_self _ _ _⟩
    · rw [if_neg h1] at hax
      rw [va_up_ne _ _ h1]
      by_cases h2 : a ∈ (List.range N).map r
      · rw [if_pos h2] at hax
        cases hax
        exact ⟨List.mem_cons_of_mem _ (List.mem_append_right _ h2), vr_up_in h2⟩
      · rw [if_neg h2] at hax
        exact ⟨List.mem_cons_of_mem _ (List.mem_append_left _ (k0 a x hax).1), by rw [vr_up_ne h2]; exact (k0 a x hax).2⟩
end ZR
end

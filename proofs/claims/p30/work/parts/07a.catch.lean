/-! THE LAW: rows for methods with an exception table -/
def zNc (U : State) : Prop := va_Nc "java/lang/IllegalArgumentException" "java/lang/IndexOutOfBoundsException" U ∧ va_Nc "java/lang/IllegalStateException" "java/lang/IndexOutOfBoundsException" U ∧ va_Nc "java/lang/IllegalStateException" "java/lang/IllegalArgumentException" U ∧ va_Nc "java/lang/IndexOutOfBoundsException" "java/lang/IllegalArgumentException" U
theorem zNc.moved {u U : State} (hvm : u.vm.Alike U.vm) (h : zNc u) : zNc U := ⟨h.1.moved hvm, h.2.1.moved hvm, h.2.2.1.moved hvm, h.2.2.2.moved hvm⟩
def zCatch (own : String) (s : State) (args : Array Value) (c : Code) (pc : Nat) (E : String) (hpc : Nat) : Prop := ∃ (pre : List ExceptionTableEntry) (x : ExceptionTableEntry) (suf : List ExceptionTableEntry) (name : String), c.exceptionTable.toList = pre ++ x :: suf ∧ (∀ z ∈ pre, covers z pc = false ∨ (z.catchType ≠ 0 ∧ ∃ nm : String, (Cond.classLink own z.catchType nm).before args s = true ∧ va_Nc E nm s)) ∧ covers x pc = true ∧ x.catchType ≠ 0 ∧ (Cond.classLink own x.catchType name).before args s = true ∧ (Cond.castable E name).before args s = true ∧ x.handlerPc = hpc
section ZL
variable {p : Program} {l : Launch} {e : Env} {R : Room} {s : State} {m : MethodId} {args : Array Value} {below : List Frame} {meth : Method} {c : Code} {G : zG} {cc : ByteArray} {nL : Nat} {own : String} {Q : State → Prop} {h : zH} {cs sl pc : Nat} {lv : List (Nat × Value)} {st : List Value}
theorem v_callVX {α : Type} {emb : α → Option Value} {y : MethodName} {bytes : ByteArray} {maxL n index fr mc ms b ci : Nat} {ret : Option FieldType} {As st0 rest fs : List Value} {Post : α → zH → Prop} {X : String → zH → Prop} (C : zOK p l e R s m args below meth c G cc nL own) (hM : zMetX emb l y bytes maxL ret fr mc ms G (.ref b :: As) h Post X) (F : zCV own index ci y bytes maxL ret n) (ha : h b = some (.inr (ci, fs))) (hn : As.length = n) (hst : st0 = As.reverse ++ .ref b :: rest) (hW : (rest.map fun v => v.category).sum ≤ 8) (hR : fr + 1 ≤ R.frames ∧ 8 + (maxL + 11) + 40 * fr ≤ R.locals) (hf : cs + mc ≤ R.cells ∧ sl + ms ≤ R.slots) (hd : decode cc pc = .ok (.invokevirtual index, 3)) (kk : ∀ (r : α) (h2 : zH), Post r h2 → V p l e R s m args below meth c G nL Q h2 (cs + mc) (sl + ms) (pc + 3) lv ((emb r).toList ++ rest)) (kx : ∀ (E : String) (h2 : zH), X E h2 → ∃ hpc : Nat, zCatch own s args c pc E hpc ∧ ∀ q : Nat, V p l e R s m args below meth c G nL Q h2 (cs + mc) (sl + ms) hpc lv [.ref q]) : V p l e R s m args below meth c G nL Q h cs sl pc lv st0 := by
  obtain ⟨C', T, N, f0, f1, f2, f3, f4, f5, f6, f7, f8⟩ := F
  intro H locs ls hP hS hL
  obtain ⟨hx, hb, hml, hown, hts, hK, hZ, hN, -⟩ := id C
  have pre : PreV s H C' b (zPre G (.ref b :: As) h) As := ⟨zPre_blind, va_recv hK.1 (hP.one ha) f0 (q0 := 0) rfl, fun U hU hWm => zPre_at C hP hS hU hWm⟩
  have hr := vx_runV (g := F0 m pc ls st0) (rest := rest) (locs := locs) (cells := cs) (slots := sl) (below := below) (meth := meth) (p := p) (l := l) (e := e) ⟨hx, hb, hml, hown, hts⟩ hM ⟨⟨rfl, rfl, hR.1, hR.2, zPay hts f5, List.mem_cons_self, hts _ f5, hts _ f4, ⟨f6, f7⟩, zLen f8, hts _ f1⟩, hts _ f2, hts _ f3⟩ pre rfl hn hL.1 hst (lv_room hW) hd hf
  intro T0 hT X0
  rcases hr T0 hT X0 with ⟨v, st₀, t, T', L, h0, X', hLf, e1, e2, ⟨⟨r, h2, hv, hp, hw⟩, hF⟩, st⟩ | ⟨q, st₀, t, T', L, E, ce, h0, X', hLf, e1, e2, ⟨⟨h2, hx2, hw⟩, hF⟩, hce, hcv, hcl, st⟩
  · cases hv
    obtain ⟨k1, k2, k3⟩ := vx_keep h0 e1 hS (fun q _ hq => hq) (fun q hq => hq) hLf hF
    obtain ⟨t2, a1, b1⟩ := kk r h2 hp T'.heap (locs ++ L) ls (by rw [e1]; exact hw) k3 hL T' rfl X'
    exact ⟨t2, st t2 a1, b1⟩
  · obtain ⟨k1, k2, k3⟩ := vx_keep h0 e1 hS (fun q _ hq => hq) (fun q hq => hq) hLf hF
    obtain ⟨hpc, ⟨pre0, x, suf, name, g1, g2, g3, g4, g5, g6, rfl⟩, kv⟩ := kx E h2 hx2
    have w := vx_catch (p := p) (l := l) (e := e) (R := R) (below := below) (meth := meth) (Q := Q) (locs := locs ++ L) (cells := cs + mc) (slots := sl + ms) (ls := ls) (rest := rest) (q := q) (H := T'.heap) hown pre0 x suf g1 g2 g3 g4 g5 g6 (by rw [e1]; exact hce) hcv hcl (kv q T'.heap (locs ++ L) ls (by rw [e1]; exact hw) k3 hL)
    obtain ⟨t2, a1, b1⟩ := w T' rfl X'
    exact ⟨t2, st.trans a1, b1⟩
end ZL
def zPreL (G : zG) (av : List Value) (h : zH) : Array Value → State → Prop := fun a U => zPre G av h a U ∧ zNc U
def zMetL {α : Type} (emb : α → Option Value) (l : Launch) (y : MethodName) (bytes : ByteArray) (maxL : Nat) (ret : Option FieldType) (hh : List (Nat × Nat × Nat × Nat)) (n mc ms : Nat) (G : zG) (av : List Value) (h : zH) (Post : α → zH → Prop) : Prop :=
  Met l y (Cond.codeWith y bytes maxL ret hh :: zT) (rmm n mc ms) (zPreL G av h) (zQ emb G Post) mc ms (zA G)
theorem zPreL_blind {G : zG} {av : List Value} {h : zH} : FrameBlind (zPreL G av h) := fun a U g mk q => ⟨zPre_blind a U g mk q.1, q.2.moved (State.WarmedH.refl U).alike⟩
theorem va_MetFH {l : Launch} {y : MethodName} {ws ws' : List Cond} {rm : Room} {Pc : Array Value → State → Prop} {Qc : Array Value → State → Outcome → State → Prop} {mc ms : Nat} {free : Addr → Prop} {cc : ByteArray} {maxL : Nat} {ret : Option FieldType} {hh : List (Nat × Nat × Nat × Nat)}
    (hy : plainFor y = true) (hw : ws = Cond.codeWith y cc maxL ret hh :: ws')
    (body : ∀ p e s m args below meth c s₁, BodyLoose p l y (headSpec ws rm) cc maxL ret e s m args below meth c s₁ → c.maxLocals = maxL → c.exceptionTable.toList = tableOf hh → Pc args s →
      W p l e (headSpec ws rm).room s m args below meth c s.heap [] 0 0 (MQ below Qc args s mc ms free) (entryFrame m args maxL)) : Met l y ws rm Pc Qc mc ms free := by
  refine MetFree.of_bodySF (code := cc) (maxLocals := maxL) (ret := ret) hy ?_ ?_
  · intro args s m h hn
    obtain ⟨m9, meth, c, hn9, h1, h2, h3, h4, -, h5, h6, -⟩ := Cond.codeWith_spec (atoms_spec (ws := ws) h _ (by rw [hw]; exact List.mem_cons_self))
    cases hn.symm.trans hn9
    exact ⟨meth, c, h1, h2, h3, h4, h5, h6⟩
  · intro p e s m args below meth c s₁ B hml hP _
    have hh0 : s₁.heap = s.heap := by rw [B.state]; rfl
    obtain ⟨t, a1, o, b1, b2, b3⟩ := body p e s m args below meth c s₁ B hml (vx_table (x := y) B (atoms_spec (ws := ws) B.pre _ (by rw [hw]; exact List.mem_cons_self))) hP s₁ hh0 (Stand.of_body B)
    exact ⟨t, o, a1, b1, b2, ⟨b3.1, b3.2⟩⟩
theorem con_ofL {α : Type} {emb : α → Option Value} {l : Launch} {y : MethodName} {bytes : ByteArray} {maxL n mc ms : Nat} {ret : Option FieldType} {hh : List (Nat × Nat × Nat × Nat)} {G : zG} {av : List Value} {h : zH} {Post : α → zH → Prop} (hl : l.stackTraces = false) (own : String) (ho : y.cls = own) (hy : plainFor y = true) (lv0 : List (Nat × Value)) (hlv : lv_args 0 av = lv0) (hav : (lg_sl av).length ≤ maxL)
    (body : ∀ p e s m args below meth c, zOK p l e (rmm n mc ms) s m args below meth c G bytes maxL own → meth.sig.returnType = ret → meth.name = y.name → c.exceptionTable.toList = tableOf hh → zNc s → ∀ Q, zFin emb p l e (rmm n mc ms) s m args below meth c G mc ms Post Q → V p l e (rmm n mc ms) s m args below meth c G maxL Q h 0 0 0 lv0 []) : zMetL emb l y bytes maxL ret hh n mc ms G av h Post := by
  refine va_MetFH (cc := bytes) (maxL := maxL) (ret := ret) (hh := hh) hy rfl ?_
  intro p e s m args below meth c s₁ B hml hto hv
  obtain ⟨⟨rfl, hK, hZ, hP⟩, hNc⟩ := hv
  have hts : ∀ w ∈ zT, w.before av.toArray s = true := fun w hw => atoms_spec (ws := Cond.codeWith y bytes maxL ret hh :: zT) B.pre w (List.mem_cons_of_mem _ hw)
  have hown : s.vm.findClass own = some m.cls := by rw [← ho]; exact findClass_of_methodNamed B.named
  have hln := lv_entry av (n := maxL) hav
  rw [lg_entry_eq]
  rw [hlv] at hln
  exact body p e s m av.toArray below meth c ⟨B.exec, B.bytes, hml, hown, hts, hK, hZ, hP.1, B.notSynchronized, hl⟩ B.returns (name_of_methodNamed B.named B.method).1 hto hNc _ (fun _ _ _ w => w) s.heap [] _ hP va_S.rf hln
def zCL (own : String) (index : Nat) (y : MethodName) (bytes : ByteArray) (maxL : Nat) (ret : Option FieldType) (hh : List (Nat × Nat × Nat × Nat)) (n : Nat) : Prop := Cond.methodLink own index y ∈ zT ∧ Cond.static y ∈ zT ∧ Cond.initialized y.cls ∈ zT ∧ Cond.codeWith y bytes maxL ret hh ∈ zT ∧ y.cls ≠ "java/lang/invoke/MethodHandle" ∧ y.cls ≠ "java/lang/invoke/VarHandle" ∧ (parseMethodDescriptor y.desc).map (fun d => d.parameters.length) = some n
theorem zPayL {s : State} {args : Array Value} (hts : ∀ w ∈ zT, w.before args s = true) {y : MethodName} {bytes : ByteArray} {maxL : Nat} {ret : Option FieldType} {hh : List (Nat × Nat × Nat × Nat)} (hc : Cond.codeWith y bytes maxL ret hh ∈ zT) : ∀ w ∈ (Cond.codeWith y bytes maxL ret hh :: zT), ∀ (a' : Array Value) (U : State), s.WarmedH U.vm → w.before a' U = true := fun w hw a' U hW => (List.mem_cons.mp hw).elim (fun e => by rw [e]; exact zGood_warm (zT_good hc) hW (hts _ hc)) (fun h => zGood_warm (zT_good h) hW (hts _ h))
section ZL
variable {p : Program} {l : Launch} {e : Env} {R : Room} {s : State} {m : MethodId} {args : Array Value} {below : List Frame} {meth : Method} {c : Code} {G : zG} {cc : ByteArray} {nL : Nat} {own : String} {Q : State → Prop} {h : zH} {cs sl pc : Nat} {lv : List (Nat × Value)} {st : List Value}
theorem v_callL {α : Type} {emb : α → Option Value} {y : MethodName} {bytes : ByteArray} {maxL n index fr mc ms : Nat} {ret : Option FieldType} {hh : List (Nat × Nat × Nat × Nat)} {As st0 rest : List Value} {Post : α → zH → Prop} (C : zOK p l e R s m args below meth c G cc nL own) (hNc : zNc s) (hM : zMetL emb l y bytes maxL ret hh fr mc ms G As h Post) (F : zCL own index y bytes maxL ret hh n) (hn : As.length = n) (hst : st0 = As.reverse ++ rest) (hW : (rest.map fun v => v.category).sum ≤ 8) (hR : fr + 1 ≤ R.frames ∧ 8 + (maxL + 11) + 40 * fr ≤ R.locals) (hf : cs + mc ≤ R.cells ∧ sl + ms ≤ R.slots) (hd : decode cc pc = .ok (.invokestatic index, 3)) (kk : ∀ (r : α) (h2 : zH), Post r h2 → V p l e R s m args below meth c G nL Q h2 (cs + mc) (sl + ms) (pc + 3) lv ((emb r).toList ++ rest)) : V p l e R s m args below meth c G nL Q h cs sl pc lv st0 := by
  obtain ⟨f1, f2, f3, f4, f5, f6, f7⟩ := F
  intro H locs ls hP hS hL
  obtain ⟨hx, hb, hml, hown, hts, hK, hZ, hN, -⟩ := id C
  have pre : PreS s H (zPreL G As h) As := ⟨zPreL_blind, fun U hU hWm => ⟨zPre_at C hP hS hU hWm, hNc.moved hWm.alike⟩⟩
  refine v_after (st0 := st0) (rest := rest) (a := As.toArray) hN ?_ hS hL kk
  exact vx_runSW (hh := hh) ⟨hx, hb, hml, hown, hts⟩ hM ⟨⟨rfl, rfl, hR.1, hR.2, zPayL hts f4, List.mem_cons_self⟩, hts _ f4, hts _ f3, ⟨f5, f6⟩, zLen f7, hts _ f1, hts _ f2⟩ pre rfl hn hL.1 hst (lv_room hW) hd hf
end ZL

/-! THE LAW: contracts with a fact of the state beside the world -/
def zPreP (P : State → Prop) (G : zG) (av : List Value) (h : zH) : Array Value → State → Prop := fun a U => zPre G av h a U ∧ P U
def zMetP {α : Type} (P : State → Prop) (emb : α → Option Value) (l : Launch) (y : MethodName) (bytes : ByteArray) (maxL : Nat) (ret : Option FieldType) (n mc ms : Nat) (G : zG) (av : List Value) (h : zH) (Post : α → zH → Prop) : Prop :=
  Met l y (Cond.code y bytes maxL ret :: zT) (rmm n mc ms) (zPreP P G av h) (zQ emb G Post) mc ms (zA G)
/-- a fact that outlasts calls and writes from gN on -/
def zLast (G : zG) (P : State → Prop) : Prop := (∀ U U' : State, U'.heap = U.heap → U.WarmedH U'.vm → P U → P U') ∧ ∀ (s U : State) (locs : List Loc), va_S (zA G) s.heap U.heap locs → s.WarmedH U.vm → P s → P U
theorem zPreP_blind {P : State → Prop} {G : zG} {av : List Value} {h : zH} (hp : zLast G P) : FrameBlind (zPreP P G av h) := fun a U g mk q => ⟨zPre_blind a U g mk q.1, hp.1 U _ rfl (State.WarmedH.refl U) q.2⟩
theorem con_ofP {α : Type} {P : State → Prop} {emb : α → Option Value} {l : Launch} {y : MethodName} {bytes : ByteArray} {maxL n mc ms : Nat} {ret : Option FieldType} {G : zG} {av : List Value} {h : zH} {Post : α → zH → Prop} (hl : l.stackTraces = false) (own : String) (ho : y.cls = own) (hy : plainFor y = true) (lv0 : List (Nat × Value)) (hlv : lv_args 0 av = lv0) (hav : (lg_sl av).length ≤ maxL)
    (body : ∀ p e s m args below meth c, zOK p l e (rmm n mc ms) s m args below meth c G bytes maxL own → meth.sig.returnType = ret → meth.name = y.name → P s → ∀ Q, zFin emb p l e (rmm n mc ms) s m args below meth c G mc ms Post Q → V p l e (rmm n mc ms) s m args below meth c G maxL Q h 0 0 0 lv0 []) : zMetP P emb l y bytes maxL ret n mc ms G av h Post := by
  refine va_MetF (cc := bytes) (maxL := maxL) (ret := ret) hy rfl ?_
  intro p e s m args below meth c s₁ B hml hv
  obtain ⟨⟨rfl, hK, hZ, hP⟩, hp⟩ := hv
  have hts : ∀ w ∈ zT, w.before av.toArray s = true := fun w hw => atoms_spec (ws := Cond.code y bytes maxL ret :: zT) B.pre w (List.mem_cons_of_mem _ hw)
  have hown : s.vm.findClass own = some m.cls := by rw [← ho]; exact findClass_of_methodNamed B.named
  have hln := lv_entry av (n := maxL) hav
  rw [lg_entry_eq]
  rw [hlv] at hln
  exact body p e s m av.toArray below meth c ⟨B.exec, B.bytes, hml, hown, hts, hK, hZ, hP.1, B.notSynchronized, hl⟩ B.returns (name_of_methodNamed B.named B.method).1 hp _ (fun _ _ _ w => w) s.heap [] _ hP va_S.rf hln
section ZL
variable {p : Program} {l : Launch} {e : Env} {R : Room} {s : State} {m : MethodId} {args : Array Value} {below : List Frame} {meth : Method} {c : Code} {G : zG} {cc : ByteArray} {nL : Nat} {own : String} {Q : State → Prop} {h : zH} {cs sl pc : Nat} {lv : List (Nat × Value)} {st : List Value}
theorem v_callP {α : Type} {P : State → Prop} {emb : α → Option Value} {y : MethodName} {bytes : ByteArray} {maxL n index fr mc ms : Nat} {ret : Option FieldType} {As st0 rest : List Value} {Post : α → zH → Prop} (C : zOK p l e R s m args below meth c G cc nL own) (hp : zLast G P) (hp0 : P s) (hM : zMetP P emb l y bytes maxL ret fr mc ms G As h Post) (F : zCS own index y bytes maxL ret n) (hn : As.length = n) (hst : st0 = As.reverse ++ rest) (hW : (rest.map fun v => v.category).sum ≤ 8) (hR : fr + 1 ≤ R.frames ∧ 8 + (maxL + 11) + 40 * fr ≤ R.locals) (hf : cs + mc ≤ R.cells ∧ sl + ms ≤ R.slots) (hd : decode cc pc = .ok (.invokestatic index, 3)) (kk : ∀ (r : α) (h2 : zH), Post r h2 → V p l e R s m args below meth c G nL Q h2 (cs + mc) (sl + ms) (pc + 3) lv ((emb r).toList ++ rest)) : V p l e R s m args below meth c G nL Q h cs sl pc lv st0 := by
  obtain ⟨f1, f2, f3, f4, f5, f6, f7⟩ := F
  intro H locs ls hP hS hL
  obtain ⟨hx, hb, hml, hown, hts, hK, hZ, hN, -⟩ := id C
  have pre : PreS s H (zPreP P G As h) As := ⟨zPreP_blind hp, fun U hU hWm => ⟨zPre_at C hP hS hU hWm, hp.2 s U locs (by rw [hU]; exact hS) hWm hp0⟩⟩
  refine v_after (st0 := st0) (rest := rest) (a := As.toArray) hN ?_ hS hL kk
  rcases f1 with f1 | ⟨host, f1⟩
  · exact va_runS ⟨hx, hb, hml, hown, hts⟩ hM ⟨⟨rfl, rfl, hR.1, hR.2, zPay hts f4, List.mem_cons_self, hts _ f4, hts _ f3, ⟨f5, f6⟩, zLen f7, hts _ f1⟩, hts _ f2⟩ pre rfl hn hL.1 hst (lv_room hW) hd hf
  · exact va_runSN ⟨hx, hb, hml, hown, hts⟩ hM ⟨⟨⟨rfl, rfl, hR.1, hR.2, zPay hts f4, List.mem_cons_self⟩, hts _ f4, hts _ f3, ⟨f5, f6⟩, zLen f7, hts _ f1⟩, hts _ f2, trivial⟩ pre rfl hn hL.1 hst (lv_room hW) hd hf
theorem v_sld (C : zOK p l e R s m args below meth c G cc nL own) {b L : Nat} {xs : Nat → Int32} {i : Int32} (hX : va_X b L xs s s.heap ∧ b < s.heap.size ∧ b < gN G) (hin : vp_in i L) (hd : decode cc pc = .ok (.iaload, 1)) (kk : V p l e R s m args below meth c G nL Q h cs sl (pc + 1) lv (.int (xs i.toNatClampNeg) :: st)) : V p l e R s m args below meth c G nL Q h cs sl pc lv (.int i :: .ref b :: st) := fun H locs ls hP hS hL => va_sld C.1 C.2.1 hX.1 hX.2.1 (Nat.not_le.mpr hX.2.2) hS hin hd (kk H locs ls hP hS hL)
theorem v_slen (C : zOK p l e R s m args below meth c G cc nL own) {b L : Nat} {xs : Nat → Int32} (hX : va_X b L xs s s.heap ∧ b < s.heap.size ∧ b < gN G) (hd : decode cc pc = .ok (.arraylength, 1)) (kk : V p l e R s m args below meth c G nL Q h cs sl (pc + 1) lv (.int (nI L) :: st)) : V p l e R s m args below meth c G nL Q h cs sl pc lv (.ref b :: st) := fun H locs ls hP hS hL => va_slen C.1 C.2.1 hX.1 hX.2.1 (Nat.not_le.mpr hX.2.2) hS hd (kk H locs ls hP hS hL)
end ZL
theorem zNc_last (G : zG) : zLast G zNc := ⟨fun _ _ _ hw h => h.moved hw.alike, fun _ _ _ _ hw h => h.moved hw.alike⟩
def zSc (G : zG) (b L : Nat) (U : State) : Prop := ∃ xs, va_X b L xs U U.heap ∧ b < U.heap.size ∧ b < gN G
theorem zSc_last (G : zG) (b L : Nat) : zLast G (zSc G b L) := by
  refine ⟨fun U U' hh hw ⟨xs, h1, h2, h3⟩ => ⟨xs, ?_, by rw [hh]; exact h2, h3⟩, fun s U locs hS hw ⟨xs, h1, h2, h3⟩ => ⟨xs, ?_, Nat.lt_of_lt_of_le h2 hS.1, h3⟩⟩
  · rw [hh]; exact h1.moved hw.alike
  · exact (h1.moved hw.alike).kept (hS.2.1 b h2 (Nat.not_le.mpr h3))

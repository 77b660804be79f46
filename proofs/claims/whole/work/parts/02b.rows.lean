/-! ROWS: one instruction each, over V -/
def zOK (p : Program) (l : Launch) (e : Env) (R : Room) (s : State) (m : MethodId) (args : Array Value) (below : List Frame) (meth : Method) (c : Code) (G : zG) (cc : ByteArray) (nL : Nat) (own : String) : Prop :=
  p.tables.exec = Jvm.exec ∧ c.code = cc ∧ c.maxLocals = nL ∧ s.vm.findClass own = some m.cls ∧ (∀ w ∈ zT, w.before args s = true) ∧ zK G s ∧ zZ G s s.heap ∧ gN G ≤ s.heap.size ∧ meth.locks = false ∧ l.stackTraces = false
/-- from every heap that holds the known cells h: the machine at pc comes to Q -/
def V (p : Program) (l : Launch) (e : Env) (R : Room) (s : State) (m : MethodId) (args : Array Value) (below : List Frame) (meth : Method) (c : Code) (G : zG) (nL : Nat) (Q : State → Prop) (h : zH) (cs sl pc : Nat) (lv : List (Nat × Value)) (st : List Value) : Prop :=
  ∀ (H : Heap) (locs : List Loc) (ls : Array Slot), zPw G h H → va_S (zA G) s.heap H locs → lv_has ls nL lv → W p l e R s m args below meth c H locs cs sl Q (F0 m pc ls st)
section ZR
variable {p : Program} {l : Launch} {e : Env} {R : Room} {s : State} {m : MethodId} {args : Array Value} {below : List Frame} {meth : Method} {c : Code} {G : zG} {cc : ByteArray} {nL : Nat} {own : String} {Q : State → Prop} {h : zH} {cs sl pc : Nat} {lv : List (Nat × Value)} {st : List Value}
theorem v_topi {x : Int32} (k : ∀ y : Int32, y = x → V p l e R s m args below meth c G nL Q h cs sl pc lv (.int y :: st)) : V p l e R s m args below meth c G nL Q h cs sl pc lv (.int x :: st) := k x rfl
theorem v_topl {x : Int64} (k : ∀ y : Int64, y = x → V p l e R s m args below meth c G nL Q h cs sl pc lv (.long y :: st)) : V p l e R s m args below meth c G nL Q h cs sl pc lv (.long x :: st) := k x rfl
theorem v_world {h' : zH} (hl : ∀ a e, h' a = some e → h a = some e) (k : V p l e R s m args below meth c G nL Q h' cs sl pc lv st) : V p l e R s m args below meth c G nL Q h cs sl pc lv st := fun H locs ls hP hS hL => k H locs ls (hP.less hl) hS hL
theorem v_lv {lv2 : List (Nat × Value)} (hl : ∀ q ∈ lv2, q ∈ lv) (k : V p l e R s m args below meth c G nL Q h cs sl pc lv2 st) : V p l e R s m args below meth c G nL Q h cs sl pc lv st := fun H locs ls hP hS hL => k H locs ls hP hS ⟨hL.1, hL.2.1, fun q hq => hL.2.2 q (hl q hq)⟩
theorem v_widen {c2 s2 : Nat} (h1 : cs ≤ c2) (h2 : sl ≤ s2) (k : V p l e R s m args below meth c G nL Q h c2 s2 pc lv st) : V p l e R s m args below meth c G nL Q h cs sl pc lv st := fun H locs ls hP hS hL => W.widen h1 h2 (k H locs ls hP hS hL)
theorem v_iconst (C : zOK p l e R s m args below meth c G cc nL own) {n : Int} {v : Int32} (hdg : decode cc pc = .ok (.iconst n, 1)) (hv : Int32.ofInt n = v) (k : V p l e R s m args below meth c G nL Q h cs sl (pc + 1) lv (.int v :: st)) : V p l e R s m args below meth c G nL Q h cs sl pc lv (st) := fun H locs ls hP hS hL => lv_iconst C.1 C.2.1 hdg hv (k H locs ls hP hS hL)
theorem v_bipush (C : zOK p l e R s m args below meth c G cc nL own) {n : Int} {v : Int32} (hdg : decode cc pc = .ok (.bipush n, 2)) (hv : (Int8.ofInt n).toInt32 = v) (k : V p l e R s m args below meth c G nL Q h cs sl (pc + 2) lv (.int v :: st)) : V p l e R s m args below meth c G nL Q h cs sl pc lv (st) := fun H locs ls hP hS hL => lv_bipush C.1 C.2.1 hdg hv (k H locs ls hP hS hL)
theorem v_sipush (C : zOK p l e R s m args below meth c G cc nL own) {n : Int} {v : Int32} (hdg : decode cc pc = .ok (.sipush n, 3)) (hv : (Int16.ofInt n).toInt32 = v) (k : V p l e R s m args below meth c G nL Q h cs sl (pc + 3) lv (.int v :: st)) : V p l e R s m args below meth c G nL Q h cs sl pc lv (st) := fun H locs ls hP hS hL => lv_sipush C.1 C.2.1 hdg hv (k H locs ls hP hS hL)
theorem v_lconst (C : zOK p l e R s m args below meth c G cc nL own) {n : Fin 2} {v : Int64} (hdg : decode cc pc = .ok (.lconst n, 1)) (hv : Int64.ofNat (n : Nat) = v) (k : V p l e R s m args below meth c G nL Q h cs sl (pc + 1) lv (.long v :: st)) : V p l e R s m args below meth c G nL Q h cs sl pc lv (st) := fun H locs ls hP hS hL => lv_lconst C.1 C.2.1 hdg hv (k H locs ls hP hS hL)
theorem v_iadd (C : zOK p l e R s m args below meth c G cc nL own) {x y : Int32} (hdg : decode cc pc = .ok (.iadd, 1)) (k : V p l e R s m args below meth c G nL Q h cs sl (pc + 1) lv (.int (x + y) :: st)) : V p l e R s m args below meth c G nL Q h cs sl pc lv (.int y :: .int x :: st) := fun H locs ls hP hS hL => lv_iadd C.1 C.2.1 hdg (k H locs ls hP hS hL)
theorem v_isub (C : zOK p l e R s m args below meth c G cc nL own) {x y : Int32} (hdg : decode cc pc = .ok (.isub, 1)) (k : V p l e R s m args below meth c G nL Q h cs sl (pc + 1) lv (.int (x - y) :: st)) : V p l e R s m args below meth c G nL Q h cs sl pc lv (.int y :: .int x :: st) := fun H locs ls hP hS hL => lv_isub C.1 C.2.1 hdg (k H locs ls hP hS hL)
theorem v_imul (C : zOK p l e R s m args below meth c G cc nL own) {x y : Int32} (hdg : decode cc pc = .ok (.imul, 1)) (k : V p l e R s m args below meth c G nL Q h cs sl (pc + 1) lv (.int (x * y) :: st)) : V p l e R s m args below meth c G nL Q h cs sl pc lv (.int y :: .int x :: st) := fun H locs ls hP hS hL => lv_imul C.1 C.2.1 hdg (k H locs ls hP hS hL)
theorem v_idiv (C : zOK p l e R s m args below meth c G cc nL own) {x y : Int32} (hdg : decode cc pc = .ok (.idiv, 1)) (hne : ¬ y = 0) (k : V p l e R s m args below meth c G nL Q h cs sl (pc + 1) lv (.int (x / y) :: st)) : V p l e R s m args below meth c G nL Q h cs sl pc lv (.int y :: .int x :: st) := fun H locs ls hP hS hL => lv_idiv C.1 C.2.1 hdg hne (k H locs ls hP hS hL)
theorem v_irem (C : zOK p l e R s m args below meth c G cc nL own) {x y : Int32} (hdg : decode cc pc = .ok (.irem, 1)) (hne : ¬ y = 0) (k : V p l e R s m args below meth c G nL Q h cs sl (pc + 1) lv (.int (x - x / y * y) :: st)) : V p l e R s m args below meth c G nL Q h cs sl pc lv (.int y :: .int x :: st) := fun H locs ls hP hS hL => lv_irem C.1 C.2.1 hdg hne (k H locs ls hP hS hL)
theorem v_ineg (C : zOK p l e R s m args below meth c G cc nL own) {x : Int32} (hdg : decode cc pc = .ok (.ineg, 1)) (k : V p l e R s m args below meth c G nL Q h cs sl (pc + 1) lv (.int (-x) :: st)) : V p l e R s m args below meth c G nL Q h cs sl pc lv (.int x :: st) := fun H locs ls hP hS hL => lv_ineg C.1 C.2.1 hdg (k H locs ls hP hS hL)
theorem v_ladd (C : zOK p l e R s m args below meth c G cc nL own) {x y : Int64} (hdg : decode cc pc = .ok (.ladd, 1)) (k : V p l e R s m args below meth c G nL Q h cs sl (pc + 1) lv (.long (x + y) :: st)) : V p l e R s m args below meth c G nL Q h cs sl pc lv (.long y :: .long x :: st) := fun H locs ls hP hS hL => lv_ladd C.1 C.2.1 hdg (k H locs ls hP hS hL)
theorem v_lsub (C : zOK p l e R s m args below meth c G cc nL own) {x y : Int64} (hdg : decode cc pc = .ok (.lsub, 1)) (k : V p l e R s m args below meth c G nL Q h cs sl (pc + 1) lv (.long (x - y) :: st)) : V p l e R s m args below meth c G nL Q h cs sl pc lv (.long y :: .long x :: st) := fun H locs ls hP hS hL => lv_lsub C.1 C.2.1 hdg (k H locs ls hP hS hL)
theorem v_lmul (C : zOK p l e R s m args below meth c G cc nL own) {x y : Int64} (hdg : decode cc pc = .ok (.lmul, 1)) (k : V p l e R s m args below meth c G nL Q h cs sl (pc + 1) lv (.long (x * y) :: st)) : V p l e R s m args below meth c G nL Q h cs sl pc lv (.long y :: .long x :: st) := fun H locs ls hP hS hL => lv_lmul C.1 C.2.1 hdg (k H locs ls hP hS hL)
theorem v_ldiv (C : zOK p l e R s m args below meth c G cc nL own) {x y : Int64} (hdg : decode cc pc = .ok (.ldiv, 1)) (hne : ¬ y = 0) (k : V p l e R s m args below meth c G nL Q h cs sl (pc + 1) lv (.long (x / y) :: st)) : V p l e R s m args below meth c G nL Q h cs sl pc lv (.long y :: .long x :: st) := fun H locs ls hP hS hL => lv_ldiv C.1 C.2.1 hdg hne (k H locs ls hP hS hL)
theorem v_lrem (C : zOK p l e R s m args below meth c G cc nL own) {x y : Int64} (hdg : decode cc pc = .ok (.lrem, 1)) (hne : ¬ y = 0) (k : V p l e R s m args below meth c G nL Q h cs sl (pc + 1) lv (.long (x - x / y * y) :: st)) : V p l e R s m args below meth c G nL Q h cs sl pc lv (.long y :: .long x :: st) := fun H locs ls hP hS hL => lv_lrem C.1 C.2.1 hdg hne (k H locs ls hP hS hL)
theorem v_lneg (C : zOK p l e R s m args below meth c G cc nL own) {x : Int64} (hdg : decode cc pc = .ok (.lneg, 1)) (k : V p l e R s m args below meth c G nL Q h cs sl (pc + 1) lv (.long (-x) :: st)) : V p l e R s m args below meth c G nL Q h cs sl pc lv (.long x :: st) := fun H locs ls hP hS hL => lv_lneg C.1 C.2.1 hdg (k H locs ls hP hS hL)
theorem v_land (C : zOK p l e R s m args below meth c G cc nL own) {x y : Int64} (hdg : decode cc pc = .ok (.land, 1)) (k : V p l e R s m args below meth c G nL Q h cs sl (pc + 1) lv (.long (x &&& y) :: st)) : V p l e R s m args below meth c G nL Q h cs sl pc lv (.long y :: .long x :: st) := fun H locs ls hP hS hL => lv_land C.1 C.2.1 hdg (k H locs ls hP hS hL)
theorem v_lxor (C : zOK p l e R s m args below meth c G cc nL own) {x y : Int64} (hdg : decode cc pc = .ok (.lxor, 1)) (k : V p l e R s m args below meth c G nL Q h cs sl (pc + 1) lv (.long (x ^^^ y) :: st)) : V p l e R s m args below meth c G nL Q h cs sl pc lv (.long y :: .long x :: st) := fun H locs ls hP hS hL => lv_lxor C.1 C.2.1 hdg (k H locs ls hP hS hL)
theorem v_iand (C : zOK p l e R s m args below meth c G cc nL own) {x y : Int32} (hdg : decode cc pc = .ok (.iand, 1)) (k : V p l e R s m args below meth c G nL Q h cs sl (pc + 1) lv (.int (x &&& y) :: st)) : V p l e R s m args below meth c G nL Q h cs sl pc lv (.int y :: .int x :: st) := fun H locs ls hP hS hL => lv_iand C.1 C.2.1 hdg (k H locs ls hP hS hL)
theorem v_ior (C : zOK p l e R s m args below meth c G cc nL own) {x y : Int32} (hdg : decode cc pc = .ok (.ior, 1)) (k : V p l e R s m args below meth c G nL Q h cs sl (pc + 1) lv (.int (x ||| y) :: st)) : V p l e R s m args below meth c G nL Q h cs sl pc lv (.int y :: .int x :: st) := fun H locs ls hP hS hL => lv_ior C.1 C.2.1 hdg (k H locs ls hP hS hL)
theorem v_ixor (C : zOK p l e R s m args below meth c G cc nL own) {x y : Int32} (hdg : decode cc pc = .ok (.ixor, 1)) (k : V p l e R s m args below meth c G nL Q h cs sl (pc + 1) lv (.int (x ^^^ y) :: st)) : V p l e R s m args below meth c G nL Q h cs sl pc lv (.int y :: .int x :: st) := fun H locs ls hP hS hL => lv_ixor C.1 C.2.1 hdg (k H locs ls hP hS hL)
theorem v_ishl (C : zOK p l e R s m args below meth c G cc nL own) {x y : Int32} (hdg : decode cc pc = .ok (.ishl, 1)) (k : V p l e R s m args below meth c G nL Q h cs sl (pc + 1) lv (.int (x <<< (y &&& 31)) :: st)) : V p l e R s m args below meth c G nL Q h cs sl pc lv (.int y :: .int x :: st) := fun H locs ls hP hS hL => lv_ishl C.1 C.2.1 hdg (k H locs ls hP hS hL)
theorem v_ishr (C : zOK p l e R s m args below meth c G cc nL own) {x y : Int32} (hdg : decode cc pc = .ok (.ishr, 1)) (k : V p l e R s m args below meth c G nL Q h cs sl (pc + 1) lv (.int (x >>> (y &&& 31)) :: st)) : V p l e R s m args below meth c G nL Q h cs sl pc lv (.int y :: .int x :: st) := fun H locs ls hP hS hL => lv_ishr C.1 C.2.1 hdg (k H locs ls hP hS hL)
theorem v_iushr (C : zOK p l e R s m args below meth c G cc nL own) {x y v : Int32} (hdg : decode cc pc = .ok (.iushr, 1)) (hv : (x.toUInt32 >>> (y.toUInt32 &&& Int32.toUInt32 31)).toInt32 = v) (k : V p l e R s m args below meth c G nL Q h cs sl (pc + 1) lv (.int v :: st)) : V p l e R s m args below meth c G nL Q h cs sl pc lv (.int y :: .int x :: st) := fun H locs ls hP hS hL => lv_iushr C.1 C.2.1 hdg hv (k H locs ls hP hS hL)
theorem v_i2l (C : zOK p l e R s m args below meth c G cc nL own) {x : Int32} {v : Int64} (hdg : decode cc pc = .ok (.i2l, 1)) (hv : x.toInt64 = v) (k : V p l e R s m args below meth c G nL Q h cs sl (pc + 1) lv (.long v :: st)) : V p l e R s m args below meth c G nL Q h cs sl pc lv (.int x :: st) := fun H locs ls hP hS hL => lv_i2l C.1 C.2.1 hdg hv (k H locs ls hP hS hL)
theorem v_l2i (C : zOK p l e R s m args below meth c G cc nL own) {x : Int64} {v : Int32} (hdg : decode cc pc = .ok (.l2i, 1)) (hv : x.toInt32 = v) (k : V p l e R s m args below meth c G nL Q h cs sl (pc + 1) lv (.int v :: st)) : V p l e R s m args below meth c G nL Q h cs sl pc lv (.long x :: st) := fun H locs ls hP hS hL => lv_l2i C.1 C.2.1 hdg hv (k H locs ls hP hS hL)
theorem v_i2b (C : zOK p l e R s m args below meth c G cc nL own) {x : Int32} {v : Int32} (hdg : decode cc pc = .ok (.i2b, 1)) (hv : x.toInt8.toInt32 = v) (k : V p l e R s m args below meth c G nL Q h cs sl (pc + 1) lv (.int v :: st)) : V p l e R s m args below meth c G nL Q h cs sl pc lv (.int x :: st) := fun H locs ls hP hS hL => lv_i2b C.1 C.2.1 hdg hv (k H locs ls hP hS hL)
theorem v_i2c (C : zOK p l e R s m args below meth c G cc nL own) {x : Int32} {v : Int32} (hdg : decode cc pc = .ok (.i2c, 1)) (hv : (x.toUInt32 % 65536).toInt32 = v) (k : V p l e R s m args below meth c G nL Q h cs sl (pc + 1) lv (.int v :: st)) : V p l e R s m args below meth c G nL Q h cs sl pc lv (.int x :: st) := fun H locs ls hP hS hL => lv_i2c C.1 C.2.1 hdg hv (k H locs ls hP hS hL)
theorem v_dup (C : zOK p l e R s m args below meth c G cc nL own) {va : Value} (hdg : decode cc pc = .ok (.dup, 1)) (hva : va.category = 1) (k : V p l e R s m args below meth c G nL Q h cs sl (pc + 1) lv (va :: va :: st)) : V p l e R s m args below meth c G nL Q h cs sl pc lv (va :: st) := fun H locs ls hP hS hL => lv_dup C.1 C.2.1 hdg hva (k H locs ls hP hS hL)
theorem v_pop (C : zOK p l e R s m args below meth c G cc nL own) {va : Value} (hdg : decode cc pc = .ok (.pop, 1)) (hva : va.category = 1) (k : V p l e R s m args below meth c G nL Q h cs sl (pc + 1) lv (st)) : V p l e R s m args below meth c G nL Q h cs sl pc lv (va :: st) := fun H locs ls hP hS hL => lv_pop C.1 C.2.1 hdg hva (k H locs ls hP hS hL)
theorem v_dup_x1 (C : zOK p l e R s m args below meth c G cc nL own) {va vb : Value} (hdg : decode cc pc = .ok (.dup_x1, 1)) (hva : va.category = 1) (hvb : vb.category = 1) (k : V p l e R s m args below meth c G nL Q h cs sl (pc + 1) lv (va :: vb :: va :: st)) : V p l e R s m args below meth c G nL Q h cs sl pc lv (va :: vb :: st) := fun H locs ls hP hS hL => lv_dup_x1 C.1 C.2.1 hdg hva hvb (k H locs ls hP hS hL)
theorem v_dup2_11 (C : zOK p l e R s m args below meth c G cc nL own) {va vb : Value} (hdg : decode cc pc = .ok (.dup2, 1)) (hva : va.category = 1) (hvb : vb.category = 1) (k : V p l e R s m args below meth c G nL Q h cs sl (pc + 1) lv (va :: vb :: va :: vb :: st)) : V p l e R s m args below meth c G nL Q h cs sl pc lv (va :: vb :: st) := fun H locs ls hP hS hL => lv_dup2_11 C.1 C.2.1 hdg hva hvb (k H locs ls hP hS hL)
theorem v_dup2_2 (C : zOK p l e R s m args below meth c G cc nL own) {va : Value} (hdg : decode cc pc = .ok (.dup2, 1)) (hva : va.category = 2) (k : V p l e R s m args below meth c G nL Q h cs sl (pc + 1) lv (va :: va :: st)) : V p l e R s m args below meth c G nL Q h cs sl pc lv (va :: st) := fun H locs ls hP hS hL => lv_dup2_2 C.1 C.2.1 hdg hva (k H locs ls hP hS hL)
theorem v_pop2_2 (C : zOK p l e R s m args below meth c G cc nL own) {va : Value} (hdg : decode cc pc = .ok (.pop2, 1)) (hva : va.category = 2) (k : V p l e R s m args below meth c G nL Q h cs sl (pc + 1) lv (st)) : V p l e R s m args below meth c G nL Q h cs sl pc lv (va :: st) := fun H locs ls hP hS hL => lv_pop2_2 C.1 C.2.1 hdg hva (k H locs ls hP hS hL)
theorem v_if_eq (C : zOK p l e R s m args below meth c G cc nL own) {x : Int32} {off : Int} {tgt : Nat} (hdg : decode cc pc = .ok (.ifCond .eq off, 3)) (ht : (pc : Int) + off = (tgt : Int)) (kt : x = 0 → V p l e R s m args below meth c G nL Q h cs sl tgt lv st) (kf : ¬ x = 0 → V p l e R s m args below meth c G nL Q h cs sl (pc + 3) lv st) : V p l e R s m args below meth c G nL Q h cs sl pc lv (.int x :: st) := fun H locs ls hP hS hL => lv_if_eq C.1 C.2.1 hdg ht (fun z => kt z H locs ls hP hS hL) (fun z => kf z H locs ls hP hS hL)
theorem v_if_ne (C : zOK p l e R s m args below meth c G cc nL own) {x : Int32} {off : Int} {tgt : Nat} (hdg : decode cc pc = .ok (.ifCond .ne off, 3)) (ht : (pc : Int) + off = (tgt : Int)) (kt : ¬ x = 0 → V p l e R s m args below meth c G nL Q h cs sl tgt lv st) (kf : x = 0 → V p l e R s m args below meth c G nL Q h cs sl (pc + 3) lv st) : V p l e R s m args below meth c G nL Q h cs sl pc lv (.int x :: st) := fun H locs ls hP hS hL => lv_if_ne C.1 C.2.1 hdg ht (fun z => kt z H locs ls hP hS hL) (fun z => kf z H locs ls hP hS hL)
theorem v_if_lt (C : zOK p l e R s m args below meth c G cc nL own) {x : Int32} {off : Int} {tgt : Nat} (hdg : decode cc pc = .ok (.ifCond .lt off, 3)) (ht : (pc : Int) + off = (tgt : Int)) (kt : x < 0 → V p l e R s m args below meth c G nL Q h cs sl tgt lv st) (kf : ¬ x < 0 → V p l e R s m args below meth c G nL Q h cs sl (pc + 3) lv st) : V p l e R s m args below meth c G nL Q h cs sl pc lv (.int x :: st) := fun H locs ls hP hS hL => lv_if_lt C.1 C.2.1 hdg ht (fun z => kt z H locs ls hP hS hL) (fun z => kf z H locs ls hP hS hL)
theorem v_if_ge (C : zOK p l e R s m args below meth c G cc nL own) {x : Int32} {off : Int} {tgt : Nat} (hdg : decode cc pc = .ok (.ifCond .ge off, 3)) (ht : (pc : Int) + off = (tgt : Int)) (kt : 0 ≤ x → V p l e R s m args below meth c G nL Q h cs sl tgt lv st) (kf : ¬ 0 ≤ x → V p l e R s m args below meth c G nL Q h cs sl (pc + 3) lv st) : V p l e R s m args below meth c G nL Q h cs sl pc lv (.int x :: st) := fun H locs ls hP hS hL => lv_if_ge C.1 C.2.1 hdg ht (fun z => kt z H locs ls hP hS hL) (fun z => kf z H locs ls hP hS hL)
theorem v_if_gt (C : zOK p l e R s m args below meth c G cc nL own) {x : Int32} {off : Int} {tgt : Nat} (hdg : decode cc pc = .ok (.ifCond .gt off, 3)) (ht : (pc : Int) + off = (tgt : Int)) (kt : 0 < x → V p l e R s m args below meth c G nL Q h cs sl tgt lv st) (kf : ¬ 0 < x → V p l e R s m args below meth c G nL Q h cs sl (pc + 3) lv st) : V p l e R s m args below meth c G nL Q h cs sl pc lv (.int x :: st) := fun H locs ls hP hS hL => lv_if_gt C.1 C.2.1 hdg ht (fun z => kt z H locs ls hP hS hL) (fun z => kf z H locs ls hP hS hL)
theorem v_if_le (C : zOK p l e R s m args below meth c G cc nL own) {x : Int32} {off : Int} {tgt : Nat} (hdg : decode cc pc = .ok (.ifCond .le off, 3)) (ht : (pc : Int) + off = (tgt : Int)) (kt : x ≤ 0 → V p l e R s m args below meth c G nL Q h cs sl tgt lv st) (kf : ¬ x ≤ 0 → V p l e R s m args below meth c G nL Q h cs sl (pc + 3) lv st) : V p l e R s m args below meth c G nL Q h cs sl pc lv (.int x :: st) := fun H locs ls hP hS hL => lv_if_le C.1 C.2.1 hdg ht (fun z => kt z H locs ls hP hS hL) (fun z => kf z H locs ls hP hS hL)
theorem v_icmp_eq (C : zOK p l e R s m args below meth c G cc nL own) {x y : Int32} {off : Int} {tgt : Nat} (hdg : decode cc pc = .ok (.if_icmp .eq off, 3)) (ht : (pc : Int) + off = (tgt : Int)) (kt : x = y → V p l e R s m args below meth c G nL Q h cs sl tgt lv st) (kf : ¬ x = y → V p l e R s m args below meth c G nL Q h cs sl (pc + 3) lv st) : V p l e R s m args below meth c G nL Q h cs sl pc lv (.int y :: .int x :: st) := fun H locs ls hP hS hL => lv_icmp_eq C.1 C.2.1 hdg ht (fun z => kt z H locs ls hP hS hL) (fun z => kf z H locs ls hP hS hL)
theorem v_icmp_ne (C : zOK p l e R s m args below meth c G cc nL own) {x y : Int32} {off : Int} {tgt : Nat} (hdg : decode cc pc = .ok (.if_icmp .ne off, 3)) (ht : (pc : Int) + off = (tgt : Int)) (kt : ¬ x = y → V p l e R s m args below meth c G nL Q h cs sl tgt lv st) (kf : x = y → V p l e R s m args below meth c G nL Q h cs sl (pc + 3) lv st) : V p l e R s m args below meth c G nL Q h cs sl pc lv (.int y :: .int x :: st) := fun H locs ls hP hS hL => lv_icmp_ne C.1 C.2.1 hdg ht (fun z => kt z H locs ls hP hS hL) (fun z => kf z H locs ls hP hS hL)
theorem v_icmp_lt (C : zOK p l e R s m args below meth c G cc nL own) {x y : Int32} {off : Int} {tgt : Nat} (hdg : decode cc pc = .ok (.if_icmp .lt off, 3)) (ht : (pc : Int) + off = (tgt : Int)) (kt : x < y → V p l e R s m args below meth c G nL Q h cs sl tgt lv st) (kf : ¬ x < y → V p l e R s m args below meth c G nL Q h cs sl (pc + 3) lv st) : V p l e R s m args below meth c G nL Q h cs sl pc lv (.int y :: .int x :: st) := fun H locs ls hP hS hL => lv_icmp_lt C.1 C.2.1 hdg ht (fun z => kt z H locs ls hP hS hL) (fun z => kf z H locs ls hP hS hL)
theorem v_icmp_ge (C : zOK p l e R s m args below meth c G cc nL own) {x y : Int32} {off : Int} {tgt : Nat} (hdg : decode cc pc = .ok (.if_icmp .ge off, 3)) (ht : (pc : Int) + off = (tgt : Int)) (kt : y ≤ x → V p l e R s m args below meth c G nL Q h cs sl tgt lv st) (kf : ¬ y ≤ x → V p l e R s m args below meth c G nL Q h cs sl (pc + 3) lv st) : V p l e R s m args below meth c G nL Q h cs sl pc lv (.int y :: .int x :: st) := fun H locs ls hP hS hL => lv_icmp_ge C.1 C.2.1 hdg ht (fun z => kt z H locs ls hP hS hL) (fun z => kf z H locs ls hP hS hL)
theorem v_icmp_gt (C : zOK p l e R s m args below meth c G cc nL own) {x y : Int32} {off : Int} {tgt : Nat} (hdg : decode cc pc = .ok (.if_icmp .gt off, 3)) (ht : (pc : Int) + off = (tgt : Int)) (kt : y < x → V p l e R s m args below meth c G nL Q h cs sl tgt lv st) (kf : ¬ y < x → V p l e R s m args below meth c G nL Q h cs sl (pc + 3) lv st) : V p l e R s m args below meth c G nL Q h cs sl pc lv (.int y :: .int x :: st) := fun H locs ls hP hS hL => lv_icmp_gt C.1 C.2.1 hdg ht (fun z => kt z H locs ls hP hS hL) (fun z => kf z H locs ls hP hS hL)
theorem v_icmp_le (C : zOK p l e R s m args below meth c G cc nL own) {x y : Int32} {off : Int} {tgt : Nat} (hdg : decode cc pc = .ok (.if_icmp .le off, 3)) (ht : (pc : Int) + off = (tgt : Int)) (kt : x ≤ y → V p l e R s m args below meth c G nL Q h cs sl tgt lv st) (kf : ¬ x ≤ y → V p l e R s m args below meth c G nL Q h cs sl (pc + 3) lv st) : V p l e R s m args below meth c G nL Q h cs sl pc lv (.int y :: .int x :: st) := fun H locs ls hP hS hL => lv_icmp_le C.1 C.2.1 hdg ht (fun z => kt z H locs ls hP hS hL) (fun z => kf z H locs ls hP hS hL)
theorem v_goto (C : zOK p l e R s m args below meth c G cc nL own) {off : Int} {tgt : Nat} (hdg : decode cc pc = .ok (.goto off, 3)) (ht : (pc : Int) + off = (tgt : Int)) (k : V p l e R s m args below meth c G nL Q h cs sl tgt lv st) : V p l e R s m args below meth c G nL Q h cs sl pc lv st := fun H locs ls hP hS hL => lv_goto C.1 C.2.1 hdg ht (k H locs ls hP hS hL)
theorem v_ifnonnull (C : zOK p l e R s m args below meth c G cc nL own) {x : Nat} {off : Int} {tgt : Nat} (hdg : decode cc pc = .ok (.ifnonnull off, 3)) (ht : (pc : Int) + off = (tgt : Int)) (k : V p l e R s m args below meth c G nL Q h cs sl tgt lv st) : V p l e R s m args below meth c G nL Q h cs sl pc lv (.ref x :: st) := fun H locs ls hP hS hL => lv_ifnonnull C.1 C.2.1 hdg ht (k H locs ls hP hS hL)
theorem v_ifnull (C : zOK p l e R s m args below meth c G cc nL own) {x : Nat} {off : Int} (hdg : decode cc pc = .ok (.ifnull off, 3)) (k : V p l e R s m args below meth c G nL Q h cs sl (pc + 3) lv st) : V p l e R s m args below meth c G nL Q h cs sl pc lv (.ref x :: st) := fun H locs ls hP hS hL => lv_ifnull C.1 C.2.1 hdg (k H locs ls hP hS hL)
theorem v_null (C : zOK p l e R s m args below meth c G cc nL own) (hdg : decode cc pc = .ok (.aconst_null, 1)) (k : V p l e R s m args below meth c G nL Q h cs sl (pc + 1) lv (.null :: st)) : V p l e R s m args below meth c G nL Q h cs sl pc lv st := fun H locs ls hP hS hL => lv_null C.1 C.2.1 hdg (k H locs ls hP hS hL)
theorem v_ifnullN (C : zOK p l e R s m args below meth c G cc nL own) {off : Int} {tgt : Nat} (hdg : decode cc pc = .ok (.ifnull off, 3)) (ht : (pc : Int) + off = (tgt : Int)) (k : V p l e R s m args below meth c G nL Q h cs sl tgt lv st) : V p l e R s m args below meth c G nL Q h cs sl pc lv (.null :: st) := fun H locs ls hP hS hL => lv_ifnullN C.1 C.2.1 hdg ht (k H locs ls hP hS hL)
theorem v_ifnonnullN (C : zOK p l e R s m args below meth c G cc nL own) {off : Int} (hdg : decode cc pc = .ok (.ifnonnull off, 3)) (k : V p l e R s m args below meth c G nL Q h cs sl (pc + 3) lv st) : V p l e R s m args below meth c G nL Q h cs sl pc lv (.null :: st) := fun H locs ls hP hS hL => lv_ifnonnullN C.1 C.2.1 hdg (k H locs ls hP hS hL)
theorem v_acmp_eq (C : zOK p l e R s m args below meth c G cc nL own) {rx ry : Option Nat} {off : Int} {tgt : Nat} (hdg : decode cc pc = .ok (.if_acmp .eq off, 3)) (ht : (pc : Int) + off = (tgt : Int)) (kt : rx = ry → V p l e R s m args below meth c G nL Q h cs sl tgt lv st) (kf : ¬ rx = ry → V p l e R s m args below meth c G nL Q h cs sl (pc + 3) lv st) : V p l e R s m args below meth c G nL Q h cs sl pc lv (va_rf ry :: va_rf rx :: st) := fun H locs ls hP hS hL => lv_acmp_eq C.1 C.2.1 hdg ht (fun z => kt z H locs ls hP hS hL) (fun z => kf z H locs ls hP hS hL)
theorem v_acmp_ne (C : zOK p l e R s m args below meth c G cc nL own) {rx ry : Option Nat} {off : Int} {tgt : Nat} (hdg : decode cc pc = .ok (.if_acmp .ne off, 3)) (ht : (pc : Int) + off = (tgt : Int)) (kt : ¬ rx = ry → V p l e R s m args below meth c G nL Q h cs sl tgt lv st) (kf : rx = ry → V p l e R s m args below meth c G nL Q h cs sl (pc + 3) lv st) : V p l e R s m args below meth c G nL Q h cs sl pc lv (va_rf ry :: va_rf rx :: st) := fun H locs ls hP hS hL => lv_acmp_ne C.1 C.2.1 hdg ht (fun z => kt z H locs ls hP hS hL) (fun z => kf z H locs ls hP hS hL)
theorem v_castN (C : zOK p l e R s m args below meth c G cc nL own) {index : Nat} (hdg : decode cc pc = .ok (.checkcast index, 3)) (k : V p l e R s m args below meth c G nL Q h cs sl (pc + 3) lv (.null :: st)) : V p l e R s m args below meth c G nL Q h cs sl pc lv (.null :: st) := fun H locs ls hP hS hL => lv_castN C.1 C.2.1 hdg (k H locs ls hP hS hL)
theorem v_tableIn (C : zOK p l e R s m args below meth c G cc nL own) {dflt lo hi : Int} {offs : Array Int} {len : Nat} {x : Int32} {off : Int} {tgt : Nat} (hdg : decode cc pc = .ok (.tableswitch dflt lo hi offs, len)) (h1 : ¬ x.toInt < lo) (h2 : ¬ hi < x.toInt) (ho : offs[(x.toInt - lo).toNat]? = some off) (ht : (pc : Int) + off = (tgt : Int)) (k : V p l e R s m args below meth c G nL Q h cs sl tgt lv st) : V p l e R s m args below meth c G nL Q h cs sl pc lv (.int x :: st) := fun H locs ls hP hS hL => lv_tableIn C.1 C.2.1 hdg h1 h2 ho ht (k H locs ls hP hS hL)
theorem v_tableOut (C : zOK p l e R s m args below meth c G cc nL own) {dflt lo hi : Int} {offs : Array Int} {len : Nat} {x : Int32} {tgt : Nat} (hdg : decode cc pc = .ok (.tableswitch dflt lo hi offs, len)) (hx0 : x.toInt < lo ∨ hi < x.toInt) (ht : (pc : Int) + dflt = (tgt : Int)) (k : V p l e R s m args below meth c G nL Q h cs sl tgt lv st) : V p l e R s m args below meth c G nL Q h cs sl pc lv (.int x :: st) := fun H locs ls hP hS hL => lv_tableOut C.1 C.2.1 hdg hx0 ht (k H locs ls hP hS hL)
theorem v_lcmp (C : zOK p l e R s m args below meth c G cc nL own) {x y : Int64} (hdg : decode cc pc = .ok (.lcmp, 1)) (k : V p l e R s m args below meth c G nL Q h cs sl (pc + 1) lv (.int (lg_cmp x y) :: st)) : V p l e R s m args below meth c G nL Q h cs sl pc lv (.long y :: .long x :: st) := fun H locs ls hP hS hL => W.lcmp C.1 C.2.1 hdg (k H locs ls hP hS hL)
theorem v_iload_n (C : zOK p l e R s m args below meth c G cc nL own) {k : Fin 4} {i : Nat} {x : Int32} (j : Nat) (hl : lv[j]? = some (i, .int x)) (hd : decode cc pc = .ok (.iload_n k, 1)) (hi : (k : Nat) = i) (kk : V p l e R s m args below meth c G nL Q h cs sl (pc + 1) lv (.int x :: st)) : V p l e R s m args below meth c G nL Q h cs sl pc lv st := fun H locs ls hP hS hL => lv_iload_n C.1 C.2.1 hd hi (lv_at hL j hl) (kk H locs ls hP hS hL)
theorem v_iload (C : zOK p l e R s m args below meth c G cc nL own) {i : Nat} {x : Int32} (j : Nat) (hl : lv[j]? = some (i, .int x)) (hd : decode cc pc = .ok (.iload i, 2)) (kk : V p l e R s m args below meth c G nL Q h cs sl (pc + 2) lv (.int x :: st)) : V p l e R s m args below meth c G nL Q h cs sl pc lv st := fun H locs ls hP hS hL => lv_iload C.1 C.2.1 hd (lv_at hL j hl) (kk H locs ls hP hS hL)
theorem v_istore_n (C : zOK p l e R s m args below meth c G cc nL own) {k : Fin 4} {i : Nat} {x : Int32} (lv2 : List (Nat × Value)) (hl : (i, Value.int x) :: lv.filter (fun q => !(q.1 == i) && !(q.1 + 1 == i && q.2.category == 2)) = lv2) (hn : i < nL) (hd : decode cc pc = .ok (.istore_n k, 1)) (hi : (k : Nat) = i) (kk : V p l e R s m args below meth c G nL Q h cs sl (pc + 1) lv2 st) : V p l e R s m args below meth c G nL Q h cs sl pc lv (.int x :: st) := fun H locs ls hP hS hL => lv_istore_n C.1 C.2.1 hd hi hL hn hl (fun ls2 hL2 => kk H locs ls2 hP hS hL2)
theorem v_istore (C : zOK p l e R s m args below meth c G cc nL own) {i : Nat} {x : Int32} (lv2 : List (Nat × Value)) (hl : (i, Value.int x) :: lv.filter (fun q => !(q.1 == i) && !(q.1 + 1 == i && q.2.category == 2)) = lv2) (hn : i < nL) (hd : decode cc pc = .ok (.istore i, 2)) (kk : V p l e R s m args below meth c G nL Q h cs sl (pc + 2) lv2 st) : V p l e R s m args below meth c G nL Q h cs sl pc lv (.int x :: st) := fun H locs ls hP hS hL => lv_istore C.1 C.2.1 hd hL hn hl (fun ls2 hL2 => kk H locs ls2 hP hS hL2)
theorem v_lload_n (C : zOK p l e R s m args below meth c G cc nL own) {k : Fin 4} {i : Nat} {x : Int64} (j : Nat) (hl : lv[j]? = some (i, .long x)) (hd : decode cc pc = .ok (.lload_n k, 1)) (hi : (k : Nat) = i) (kk : V p l e R s m args below meth c G nL Q h cs sl (pc + 1) lv (.long x :: st)) : V p l e R s m args below meth c G nL Q h cs sl pc lv st := fun H locs ls hP hS hL => lv_lload_n C.1 C.2.1 hd hi (lv_at hL j hl) (kk H locs ls hP hS hL)
theorem v_lload (C : zOK p l e R s m args below meth c G cc nL own) {i : Nat} {x : Int64} (j : Nat) (hl : lv[j]? = some (i, .long x)) (hd : decode cc pc = .ok (.lload i, 2)) (kk : V p l e R s m args below meth c G nL Q h cs sl (pc + 2) lv (.long x :: st)) : V p l e R s m args below meth c G nL Q h cs sl pc lv st := fun H locs ls hP hS hL => lv_lload C.1 C.2.1 hd (lv_at hL j hl) (kk H locs ls hP hS hL)
theorem v_lstore_n (C : zOK p l e R s m args below meth c G cc nL own) {k : Fin 4} {i : Nat} {x : Int64} (lv2 : List (Nat × Value)) (hl : (i, Value.long x) :: lv.filter (fun q => !(q.1 == i) && (!(q.1 == i + 1) && !(q.1 + 1 == i && q.2.category == 2))) = lv2) (hn : i + 1 < nL) (hd : decode cc pc = .ok (.lstore_n k, 1)) (hi : (k : Nat) = i) (kk : V p l e R s m args below meth c G nL Q h cs sl (pc + 1) lv2 st) : V p l e R s m args below meth c G nL Q h cs sl pc lv (.long x :: st) := fun H locs ls hP hS hL => lv_lstore_n C.1 C.2.1 hd hi hL hn hl (fun ls2 hL2 => kk H locs ls2 hP hS hL2)
theorem v_lstore (C : zOK p l e R s m args below meth c G cc nL own) {i : Nat} {x : Int64} (lv2 : List (Nat × Value)) (hl : (i, Value.long x) :: lv.filter (fun q => !(q.1 == i) && (!(q.1 == i + 1) && !(q.1 + 1 == i && q.2.category == 2))) = lv2) (hn : i + 1 < nL) (hd : decode cc pc = .ok (.lstore i, 2)) (kk : V p l e R s m args below meth c G nL Q h cs sl (pc + 2) lv2 st) : V p l e R s m args below meth c G nL Q h cs sl pc lv (.long x :: st) := fun H locs ls hP hS hL => lv_lstore C.1 C.2.1 hd hL hn hl (fun ls2 hL2 => kk H locs ls2 hP hS hL2)
theorem v_aload_n (C : zOK p l e R s m args below meth c G cc nL own) {k : Fin 4} {i : Nat} {x : Nat} (j : Nat) (hl : lv[j]? = some (i, .ref x)) (hd : decode cc pc = .ok (.aload_n k, 1)) (hi : (k : Nat) = i) (kk : V p l e R s m args below meth c G nL Q h cs sl (pc + 1) lv (.ref x :: st)) : V p l e R s m args below meth c G nL Q h cs sl pc lv st := fun H locs ls hP hS hL => lv_aload_n C.1 C.2.1 hd hi (lv_at hL j hl) (kk H locs ls hP hS hL)
theorem v_aload (C : zOK p l e R s m args below meth c G cc nL own) {i : Nat} {x : Nat} (j : Nat) (hl : lv[j]? = some (i, .ref x)) (hd : decode cc pc = .ok (.aload i, 2)) (kk : V p l e R s m args below meth c G nL Q h cs sl (pc + 2) lv (.ref x :: st)) : V p l e R s m args below meth c G nL Q h cs sl pc lv st := fun H locs ls hP hS hL => lv_aload C.1 C.2.1 hd (lv_at hL j hl) (kk H locs ls hP hS hL)
theorem v_astore_n (C : zOK p l e R s m args below meth c G cc nL own) {k : Fin 4} {i : Nat} {x : Nat} (lv2 : List (Nat × Value)) (hl : (i, Value.ref x) :: lv.filter (fun q => !(q.1 == i) && !(q.1 + 1 == i && q.2.category == 2)) = lv2) (hn : i < nL) (hd : decode cc pc = .ok (.astore_n k, 1)) (hi : (k : Nat) = i) (kk : V p l e R s m args below meth c G nL Q h cs sl (pc + 1) lv2 st) : V p l e R s m args below meth c G nL Q h cs sl pc lv (.ref x :: st) := fun H locs ls hP hS hL => lv_astore_n C.1 C.2.1 hd hi hL hn hl (fun ls2 hL2 => kk H locs ls2 hP hS hL2)
theorem v_astore (C : zOK p l e R s m args below meth c G cc nL own) {i : Nat} {x : Nat} (lv2 : List (Nat × Value)) (hl : (i, Value.ref x) :: lv.filter (fun q => !(q.1 == i) && !(q.1 + 1 == i && q.2.category == 2)) = lv2) (hn : i < nL) (hd : decode cc pc = .ok (.astore i, 2)) (kk : V p l e R s m args below meth c G nL Q h cs sl (pc + 2) lv2 st) : V p l e R s m args below meth c G nL Q h cs sl pc lv (.ref x :: st) := fun H locs ls hP hS hL => lv_astore C.1 C.2.1 hd hL hn hl (fun ls2 hL2 => kk H locs ls2 hP hS hL2)
theorem v_aload_nN (C : zOK p l e R s m args below meth c G cc nL own) {k : Fin 4} {i : Nat} (j : Nat) (hl : lv[j]? = some (i, .null)) (hd : decode cc pc = .ok (.aload_n k, 1)) (hi : (k : Nat) = i) (kk : V p l e R s m args below meth c G nL Q h cs sl (pc + 1) lv (.null :: st)) : V p l e R s m args below meth c G nL Q h cs sl pc lv st := fun H locs ls hP hS hL => lv_aload_nN C.1 C.2.1 hd hi (lv_at hL j hl) (kk H locs ls hP hS hL)
theorem v_aloadN (C : zOK p l e R s m args below meth c G cc nL own) {i : Nat} (j : Nat) (hl : lv[j]? = some (i, .null)) (hd : decode cc pc = .ok (.aload i, 2)) (kk : V p l e R s m args below meth c G nL Q h cs sl (pc + 2) lv (.null :: st)) : V p l e R s m args below meth c G nL Q h cs sl pc lv st := fun H locs ls hP hS hL => lv_aloadN C.1 C.2.1 hd (lv_at hL j hl) (kk H locs ls hP hS hL)
theorem v_astore_nN (C : zOK p l e R s m args below meth c G cc nL own) {k : Fin 4} {i : Nat} (lv2 : List (Nat × Value)) (hl : (i, Value.null) :: lv.filter (fun q => !(q.1 == i) && !(q.1 + 1 == i && q.2.category == 2)) = lv2) (hn : i < nL) (hd : decode cc pc = .ok (.astore_n k, 1)) (hi : (k : Nat) = i) (kk : V p l e R s m args below meth c G nL Q h cs sl (pc + 1) lv2 st) : V p l e R s m args below meth c G nL Q h cs sl pc lv (.null :: st) := fun H locs ls hP hS hL => lv_astore_nN C.1 C.2.1 hd hi hL hn hl (fun ls2 hL2 => kk H locs ls2 hP hS hL2)
theorem v_astoreN (C : zOK p l e R s m args below meth c G cc nL own) {i : Nat} (lv2 : List (Nat × Value)) (hl : (i, Value.null) :: lv.filter (fun q => !(q.1 == i) && !(q.1 + 1 == i && q.2.category == 2)) = lv2) (hn : i < nL) (hd : decode cc pc = .ok (.astore i, 2)) (kk : V p l e R s m args below meth c G nL Q h cs sl (pc + 2) lv2 st) : V p l e R s m args below meth c G nL Q h cs sl pc lv (.null :: st) := fun H locs ls hP hS hL => lv_astoreN C.1 C.2.1 hd hL hn hl (fun ls2 hL2 => kk H locs ls2 hP hS hL2)
theorem v_iinc (C : zOK p l e R s m args below meth c G cc nL own) {i : Nat} {n : Int} {x v : Int32} (j : Nat) (lv2 : List (Nat × Value)) (hj : lv[j]? = some (i, .int x)) (hv : x + Int32.ofInt n = v) (hl : (i, Value.int v) :: lv.filter (fun q => !(q.1 == i) && !(q.1 + 1 == i && q.2.category == 2)) = lv2) (hn : i < nL) (hd : decode cc pc = .ok (.iinc i n, 3)) (kk : V p l e R s m args below meth c G nL Q h cs sl (pc + 3) lv2 st) : V p l e R s m args below meth c G nL Q h cs sl pc lv st := fun H locs ls hP hS hL => lv_iinc C.1 C.2.1 hd hL hj hv hn hl (fun ls2 hL2 => kk H locs ls2 hP hS hL2)
theorem v_ldc (C : zOK p l e R s m args below meth c G cc nL own) {index : Nat} {v : Int32} (hc : Cond.constant own index v ∈ zT) (hd : decode cc pc = .ok (.ldc index, 2)) (kk : V p l e R s m args below meth c G nL Q h cs sl (pc + 2) lv (.int v :: st)) : V p l e R s m args below meth c G nL Q h cs sl pc lv st := fun H locs ls hP hS hL => lv_ldc C.1 C.2.1 C.2.2.2.1 (C.2.2.2.2.1 _ hc) hd (kk H locs ls hP hS hL)
theorem v_ldcw (C : zOK p l e R s m args below meth c G cc nL own) {index : Nat} {v : Int32} (hc : Cond.constant own index v ∈ zT) (hd : decode cc pc = .ok (.ldc_w index, 3)) (kk : V p l e R s m args below meth c G nL Q h cs sl (pc + 3) lv (.int v :: st)) : V p l e R s m args below meth c G nL Q h cs sl pc lv st := fun H locs ls hP hS hL => lv_ldcw C.1 C.2.1 C.2.2.2.1 (C.2.2.2.2.1 _ hc) hd (kk H locs ls hP hS hL)
theorem v_ldc2 (C : zOK p l e R s m args below meth c G cc nL own) {index : Nat} {v : Int64} (hc : Cond.constantLong own index v ∈ zT) (hd : decode cc pc = .ok (.ldc2_w index, 3)) (kk : V p l e R s m args below meth c G nL Q h cs sl (pc + 3) lv (.long v :: st)) : V p l e R s m args below meth c G nL Q h cs sl pc lv st := fun H locs ls hP hS hL => lv_ldc2 C.1 C.2.1 C.2.2.2.1 (C.2.2.2.2.1 _ hc) hd (kk H locs ls hP hS hL)
/-! fields -/
def zSame (ref : String) (t : String × String × String × Bool) : Prop := ref = t.1 ∨ Cond.sameField ref t.1 t.2.1 t.2.2.1 ∈ zT
def zLk (own : String) (index : Nat) (ref : String) (t : String × String × String × Bool) : Prop := Cond.fieldLink own index ref t.2.1 t.2.2.1 ∈ zT ∨ ∃ host : String, Cond.fieldLinkNest own index ref t.2.1 t.2.2.1 host ∈ zT
def zFld (own : String) (index ci k : Nat) : Prop := ∃ (C ref : String) (T : u_T) (N : Nat), zCl[ci]? = some (C, T, N) ∧ k < N ∧ (∀ w ∈ u_ws C T N, w ∈ zT) ∧ zLk own index ref (T k) ∧ zSame ref (T k)
theorem zSame.use {ref : String} {t : String × String × String × Bool} (hs : zSame ref t) {s : State} {args : Array Value} (hts : ∀ w ∈ zT, w.before args s = true) : ∀ x, s.fieldFound? t.1 t.2.1 t.2.2.1 = some x → s.fieldFound? ref t.2.1 t.2.2.1 = some x := by
  rcases hs with rfl | hs
  · exact fun _ hx => hx
  · exact fun x hx => u_same (hts _ hs) x hx
theorem v_get (C : zOK p l e R s m args below meth c G cc nL own) {a ci k index : Nat} {fs : List Value} {v : Value} (F : zFld own index ci k) (ha : h a = some (.inr (ci, fs))) (hv : fs[k]? = some v) (hd : decode cc pc = .ok (.getfield index, 3)) (kk : V p l e R s m args below meth c G nL Q h cs sl (pc + 3) lv (v :: st)) : V p l e R s m args below meth c G nL Q h cs sl pc lv (.ref a :: st) := by
  obtain ⟨hx, hb, -, hown, hts, hK, -⟩ := C
  obtain ⟨C', ref, T, N, f1, f2, f3, f4, f5⟩ := F
  intro H locs ls hP hS hL
  rcases f4 with f4 | ⟨host, f4⟩
  · exact va_get (D := gD G) (cl := zCl) hx hb hts f3 hown hK.1 (hP.one ha) 0 rfl f1 k f2 (hts _ f4) (f5.use hts) hv hd (kk H locs ls hP hS hL)
  · exact va_getN (D := gD G) (cl := zCl) hx hb hts f3 hown hK.1 (hP.one ha) 0 rfl f1 k f2 (hts _ f4) (f5.use hts) hv hd (kk H locs ls hP hS hL)
def zPut (own : String) (index ci k : Nat) (ty : FieldType) (fin : Bool) : Prop := ∃ (C ref : String) (T : u_T) (N : Nat) (ty0 : Nat → FieldType), zCl[ci]? = some (C, T, N) ∧ k < N ∧ (∀ w ∈ u_ws C T N, w ∈ zT) ∧ zLk own index ref (T k) ∧ zSame ref (T k) ∧ (∀ j, j < N → parseFieldDescriptor (T j).2.2.1 = some (ty0 j)) ∧ (∀ a, a < N → ∀ b, b < N → a ≠ b → (T a).2.1 ≠ (T b).2.1) ∧ (T k).2.2.2 = fin ∧ parseFieldDescriptor (T k).2.2.1 = some ty ∧ (fin = true → (T k).1 = own ∧ Cond.fieldLink own index ref (T k).2.1 (T k).2.2.1 ∈ zT)
theorem v_put (C : zOK p l e R s m args below meth c G cc nL own) {a ci k index : Nat} {ty : FieldType} {fs : List Value} {v : Value} (fs2 : List Value) (F : zPut own index ci k ty false) (ha : h a = some (.inr (ci, fs))) (hv : fs.set k v = fs2) (hn : narrow ty v = v) (hf : fits ty v = true) (hl : k < fs.length) (hd : decode cc pc = .ok (.putfield index, 3)) (kk : V p l e R s m args below meth c G nL Q (zup h a (.inr (ci, fs2))) cs sl (pc + 3) lv st) : V p l e R s m args below meth c G nL Q h cs sl pc lv (v :: .ref a :: st) := by
  obtain ⟨hx, hb, -, hown, hts, hK, -, hN, -⟩ := C
  obtain ⟨C', ref, T, N, ty0, f1, f2, f3, f4, f5, f6, f7, f8, f9, -⟩ := F
  subst hv
  intro H locs ls hP hS hL
  refine hP.put (e' := .inr (ci, fs.set k v)) ha (fun ws q0 p d hq kw => ?_)
  rcases f4 with f4 | ⟨host, f4⟩
  · exact va_put (D := gD G) (cl := zCl) hx hb hts f3 ty0 f6 f7 hown hK.1 p d hS q0 hq f1 k f2 (hts _ f4) (f5.use hts) f8 f9 hn hf hl hd (fun H1 locs1 p1 d1 S1 => kk H1 locs1 ls (kw H1 (Nat.le_trans hN S1.1) p1 d1) S1 hL)
  · exact va_putN (D := gD G) (cl := zCl) hx hb hts f3 ty0 f6 f7 hown hK.1 p d hS q0 hq f1 k f2 (hts _ f4) (f5.use hts) f8 f9 hn hf hl hd (fun H1 locs1 p1 d1 S1 => kk H1 locs1 ls (kw H1 (Nat.le_trans hN S1.1) p1 d1) S1 hL)
theorem v_putF (C : zOK p l e R s m args below meth c G cc nL own) {a ci k index : Nat} {ty : FieldType} {fs : List Value} {v : Value} (fs2 : List Value) (F : zPut own index ci k ty true) (hin : meth.name = "<init>") (ha : h a = some (.inr (ci, fs))) (hv : fs.set k v = fs2) (hn : narrow ty v = v) (hf : fits ty v = true) (hl : k < fs.length) (hd : decode cc pc = .ok (.putfield index, 3)) (kk : V p l e R s m args below meth c G nL Q (zup h a (.inr (ci, fs2))) cs sl (pc + 3) lv st) : V p l e R s m args below meth c G nL Q h cs sl pc lv (v :: .ref a :: st) := by
  obtain ⟨hx, hb, -, hown, hts, hK, -, hN, -⟩ := C
  obtain ⟨C', ref, T, N, ty0, f1, f2, f3, f4, f5, f6, f7, f8, f9, f10⟩ := F
  subst hv
  intro H locs ls hP hS hL
  refine hP.put (e' := .inr (ci, fs.set k v)) ha (fun ws q0 p d hq kw => ?_)
  exact va_putF (D := gD G) (cl := zCl) hx hb hts f3 ty0 f6 f7 hown hK.1 p d hS q0 hq f1 k f2 (hts _ (f10 rfl).2) (f5.use hts) f8 hin (f10 rfl).1 f9 hn hf hl hd (fun H1 locs1 p1 d1 S1 => kk H1 locs1 ls (kw H1 (Nat.le_trans hN S1.1) p1 d1) S1 hL)
/-! arrays -/
theorem v_iald (C : zOK p l e R s m args below meth c G cc nL own) {a n : Nat} {f : Nat → Int32} {i : Int32} (ha : h a = some (.inl (gc G 0, n, .inl f))) (hin : vp_in i n) (hd : decode cc pc = .ok (.iaload, 1)) (kk : V p l e R s m args below meth c G nL Q h cs sl (pc + 1) lv (.int (f i.toNatClampNeg) :: st)) : V p l e R s m args below meth c G nL Q h cs sl pc lv (.int i :: .ref a :: st) := fun H locs ls hP hS hL => va_iald C.1 C.2.1 C.2.2.2.2.2.1.1 (hP.one ha) 0 0 rfl rfl hin hd (kk H locs ls hP hS hL)
theorem v_bald (C : zOK p l e R s m args below meth c G cc nL own) {a n : Nat} {f : Nat → Int32} {i : Int32} (ha : h a = some (.inl (gc G 2, n, .inl f))) (hin : vp_in i n) (hd : decode cc pc = .ok (.baload, 1)) (kk : V p l e R s m args below meth c G nL Q h cs sl (pc + 1) lv (.int (f i.toNatClampNeg) :: st)) : V p l e R s m args below meth c G nL Q h cs sl pc lv (.int i :: .ref a :: st) := fun H locs ls hP hS hL => va_bald C.1 C.2.1 C.2.2.2.2.2.1.1 (hP.one ha) 0 2 rfl rfl hin hd (kk H locs ls hP hS hL)
theorem v_zald (C : zOK p l e R s m args below meth c G cc nL own) {a n : Nat} {f : Nat → Int32} {i : Int32} (ha : h a = some (.inl (gc G 4, n, .inl f))) (hin : vp_in i n) (hd : decode cc pc = .ok (.baload, 1)) (kk : V p l e R s m args below meth c G nL Q h cs sl (pc + 1) lv (.int (f i.toNatClampNeg) :: st)) : V p l e R s m args below meth c G nL Q h cs sl pc lv (.int i :: .ref a :: st) := fun H locs ls hP hS hL => va_zald C.1 C.2.1 C.2.2.2.2.2.1.1 (hP.one ha) 0 4 rfl rfl hin hd (kk H locs ls hP hS hL)
theorem v_cald (C : zOK p l e R s m args below meth c G cc nL own) {a n : Nat} {f : Nat → Int32} {i : Int32} (ha : h a = some (.inl (gc G 3, n, .inl f))) (hin : vp_in i n) (hd : decode cc pc = .ok (.caload, 1)) (kk : V p l e R s m args below meth c G nL Q h cs sl (pc + 1) lv (.int (f i.toNatClampNeg) :: st)) : V p l e R s m args below meth c G nL Q h cs sl pc lv (.int i :: .ref a :: st) := fun H locs ls hP hS hL => va_cald C.1 C.2.1 C.2.2.2.2.2.1.1 (hP.one ha) 0 3 rfl rfl hin hd (kk H locs ls hP hS hL)
theorem v_lald (C : zOK p l e R s m args below meth c G cc nL own) {a n : Nat} {f : Nat → Int64} {i : Int32} (ha : h a = some (.inl (gc G 1, n, .inr (.inl f)))) (hin : vp_in i n) (hd : decode cc pc = .ok (.laload, 1)) (kk : V p l e R s m args below meth c G nL Q h cs sl (pc + 1) lv (.long (f i.toNatClampNeg) :: st)) : V p l e R s m args below meth c G nL Q h cs sl pc lv (.int i :: .ref a :: st) := fun H locs ls hP hS hL => va_lald C.1 C.2.1 C.2.2.2.2.2.1.1 (hP.one ha) 0 1 rfl rfl hin hd (kk H locs ls hP hS hL)
theorem v_aald (C : zOK p l e R s m args below meth c G cc nL own) {a n : Nat} {f : Nat → Option Nat} {i : Int32} {ca : ClassId} {ty : FieldType} (t : Nat) (ht : (zTy (gc G))[t]? = some (ca, ty)) (hty : ty.isReference = true) (ha : h a = some (.inl (ca, n, .inr (.inr (.inr (.inr f)))))) (hin : vp_in i n) (hd : decode cc pc = .ok (.aaload, 1)) (kk : V p l e R s m args below meth c G nL Q h cs sl (pc + 1) lv (va_rf (f i.toNatClampNeg) :: st)) : V p l e R s m args below meth c G nL Q h cs sl pc lv (.int i :: .ref a :: st) := by
  obtain ⟨hx, hb, -, hown, hts, hK, -⟩ := C
  intro H locs ls hP hS hL
  have hlt : i.toNatClampNeg < n := Nat.not_le.mp fun q => hin (Or.inr q)
  exact W.aald (v := va_rf (f i.toNatClampNeg)) (ty := ty) hx hb (hP.get ha) ((hK.1.2 t _ ht).1 n (fun j => va_rf (f j))) hty (fun q => by cases q) (by show ¬ (i < 0 ∨ (arrV _ _ _).slots.size ≤ _); rw [arrV_size]; exact hin) (by show (arrV _ _ _).slots[_]? = _; rw [arrV_read _ _ hlt]) rfl rfl hd (kk H locs ls hP hS hL)
theorem v_alen (C : zOK p l e R s m args below meth c G cc nL own) {a : Nat} {ca : ClassId} {ty : FieldType} {x : vp_A} {v : Int32} (t : Nat) (ht : (zTy (gc G))[t]? = some (ca, ty)) (ha : h a = some (.inl (ca, x))) (hv : Int32.ofNat x.1 = v) (hd : decode cc pc = .ok (.arraylength, 1)) (kk : V p l e R s m args below meth c G nL Q h cs sl (pc + 1) lv (.int v :: st)) : V p l e R s m args below meth c G nL Q h cs sl pc lv (.ref a :: st) := fun H locs ls hP hS hL => va_alen C.1 C.2.1 C.2.2.2.2.2.1.1 (hP.one ha) 0 t rfl ht hv hd (kk H locs ls hP hS hL)
theorem v_iast (C : zOK p l e R s m args below meth c G cc nL own) {a n : Nat} {f : Nat → Int32} {i x : Int32} (ha : h a = some (.inl (gc G 0, n, .inl f))) (hin : vp_in i n) (hd : decode cc pc = .ok (.iastore, 1)) (kk : V p l e R s m args below meth c G nL Q (zup h a (.inl (gc G 0, n, .inl (upd f i.toNatClampNeg x)))) cs sl (pc + 1) lv st) : V p l e R s m args below meth c G nL Q h cs sl pc lv (.int x :: .int i :: .ref a :: st) := fun H locs ls hP hS hL => hP.put ha (fun ws q0 p d hq kw => va_iast C.1 C.2.1 C.2.2.2.2.2.1.1 p d hS q0 0 hq rfl hin hd (fun H1 locs1 p1 d1 S1 => kk H1 locs1 ls (kw H1 (Nat.le_trans C.2.2.2.2.2.2.2.1 S1.1) p1 d1) S1 hL))
theorem v_bast (C : zOK p l e R s m args below meth c G cc nL own) {a n : Nat} {f : Nat → Int32} {i x : Int32} (ha : h a = some (.inl (gc G 2, n, .inl f))) (hin : vp_in i n) (hd : decode cc pc = .ok (.bastore, 1)) (kk : V p l e R s m args below meth c G nL Q (zup h a (.inl (gc G 2, n, .inl (upd f i.toNatClampNeg (vp_nar .byte x))))) cs sl (pc + 1) lv st) : V p l e R s m args below meth c G nL Q h cs sl pc lv (.int x :: .int i :: .ref a :: st) := fun H locs ls hP hS hL => hP.put ha (fun ws q0 p d hq kw => va_bast C.1 C.2.1 C.2.2.2.2.2.1.1 p d hS q0 2 hq rfl hin hd (fun H1 locs1 p1 d1 S1 => kk H1 locs1 ls (kw H1 (Nat.le_trans C.2.2.2.2.2.2.2.1 S1.1) p1 d1) S1 hL))
theorem v_zast (C : zOK p l e R s m args below meth c G cc nL own) {a n : Nat} {f : Nat → Int32} {i x : Int32} (ha : h a = some (.inl (gc G 4, n, .inl f))) (hin : vp_in i n) (hd : decode cc pc = .ok (.bastore, 1)) (kk : V p l e R s m args below meth c G nL Q (zup h a (.inl (gc G 4, n, .inl (upd f i.toNatClampNeg (vp_nar .boolean x))))) cs sl (pc + 1) lv st) : V p l e R s m args below meth c G nL Q h cs sl pc lv (.int x :: .int i :: .ref a :: st) := fun H locs ls hP hS hL => hP.put ha (fun ws q0 p d hq kw => va_zast C.1 C.2.1 C.2.2.2.2.2.1.1 p d hS q0 4 hq rfl hin hd (fun H1 locs1 p1 d1 S1 => kk H1 locs1 ls (kw H1 (Nat.le_trans C.2.2.2.2.2.2.2.1 S1.1) p1 d1) S1 hL))
theorem v_cast (C : zOK p l e R s m args below meth c G cc nL own) {a n : Nat} {f : Nat → Int32} {i x : Int32} (ha : h a = some (.inl (gc G 3, n, .inl f))) (hin : vp_in i n) (hd : decode cc pc = .ok (.castore, 1)) (kk : V p l e R s m args below meth c G nL Q (zup h a (.inl (gc G 3, n, .inl (upd f i.toNatClampNeg (vp_nar .char x))))) cs sl (pc + 1) lv st) : V p l e R s m args below meth c G nL Q h cs sl pc lv (.int x :: .int i :: .ref a :: st) := fun H locs ls hP hS hL => hP.put ha (fun ws q0 p d hq kw => va_cast C.1 C.2.1 C.2.2.2.2.2.1.1 p d hS q0 3 hq rfl hin hd (fun H1 locs1 p1 d1 S1 => kk H1 locs1 ls (kw H1 (Nat.le_trans C.2.2.2.2.2.2.2.1 S1.1) p1 d1) S1 hL))
theorem v_last (C : zOK p l e R s m args below meth c G cc nL own) {a n : Nat} {f : Nat → Int64} {i : Int32} {x : Int64} (ha : h a = some (.inl (gc G 1, n, .inr (.inl f)))) (hin : vp_in i n) (hd : decode cc pc = .ok (.lastore, 1)) (kk : V p l e R s m args below meth c G nL Q (zup h a (.inl (gc G 1, n, .inr (.inl (vp_updL f i.toNatClampNeg x))))) cs sl (pc + 1) lv st) : V p l e R s m args below meth c G nL Q h cs sl pc lv (.long x :: .int i :: .ref a :: st) := fun H locs ls hP hS hL => hP.put ha (fun ws q0 p d hq kw => va_last C.1 C.2.1 C.2.2.2.2.2.1.1 p d hS q0 1 hq rfl hin hd (fun H1 locs1 p1 d1 S1 => kk H1 locs1 ls (kw H1 (Nat.le_trans C.2.2.2.2.2.2.2.1 S1.1) p1 d1) S1 hL))
theorem v_aastN (C : zOK p l e R s m args below meth c G cc nL own) {a n : Nat} {f : Nat → Option Nat} {i : Int32} {ca : ClassId} {E : String} (t : Nat) (ht : (zTy (gc G))[t]? = some (ca, .object E)) (ha : h a = some (.inl (ca, n, .inr (.inr (.inr (.inr f)))))) (hin : vp_in i n) (hd : decode cc pc = .ok (.aastore, 1)) (kk : V p l e R s m args below meth c G nL Q (zup h a (.inl (ca, n, .inr (.inr (.inr (.inr (va_up f i.toNatClampNeg none))))))) cs sl (pc + 1) lv st) : V p l e R s m args below meth c G nL Q h cs sl pc lv (.null :: .int i :: .ref a :: st) := fun H locs ls hP hS hL => hP.put ha (fun ws q0 p d hq kw => va_astqN C.1 C.2.1 C.2.2.2.2.2.1.1 p d hS q0 t hq ht hin hd (fun H1 locs1 p1 d1 S1 => kk H1 locs1 ls (kw H1 (Nat.le_trans C.2.2.2.2.2.2.2.1 S1.1) p1 d1) S1 hL))
/-- an element: an object of the world, of class ci, that can be cast to the array's component -/
theorem v_aast (C : zOK p l e R s m args below meth c G cc nL own) {a n v ci : Nat} {vs : List Value} {f : Nat → Option Nat} {i : Int32} {ca : ClassId} {E : String} {r : vw_C} (t : Nat) (ht : (zTy (gc G))[t]? = some (ca, .object E)) (ha : h a = some (.inl (ca, n, .inr (.inr (.inr (.inr f)))))) (hv : h v = some (.inr (ci, vs))) (hc : zCl[ci]? = some r) (hca : Cond.castable r.1 E ∈ zT ∨ r.1 = E) (hin : vp_in i n) (hd : decode cc pc = .ok (.aastore, 1)) (kk : V p l e R s m args below meth c G nL Q (zup h a (.inl (ca, n, .inr (.inr (.inr (.inr (va_up f i.toNatClampNeg (some v)))))))) cs sl (pc + 1) lv st) : V p l e R s m args below meth c G nL Q h cs sl pc lv (.ref v :: .int i :: .ref a :: st) := by
  obtain ⟨hx, hb, -, hown, hts, hK, -, hN, -⟩ := C
  intro H locs ls hP hS hL
  refine hP.put (e' := .inl (ca, n, .inr (.inr (.inr (.inr (va_up f i.toNatClampNeg (some v))))))) ha (fun ws q0 p d hq kw => ?_)
  have hr : va_Any E s H v := by
    obtain ⟨r', h1, cell, h2, h3, h4, -⟩ := hP.get hv
    cases hc.symm.trans h1
    obtain ⟨hcl, kC, hkC, hkk⟩ := (hK.1.1 ci r hc).2
    refine ⟨cell, h2, by rw [h4]; rfl, ⟨kC, by rw [h3]; exact hkC⟩, fun comp hcomp => ?_⟩
    rw [h3]
    rcases hca with hca | hca
    · obtain ⟨c3, c4, g1, g2, g3⟩ := Cond.castable_spec (hts _ hca)
      cases g1.symm.trans hcl
      cases g2.symm.trans hcomp
      exact g3
    · subst hca
      cases hcl.symm.trans hcomp
      exact va_assign ⟨hcl, kC, hkC, hkk⟩
  exact va_astqM hx hb hK.1 p d hS q0 t hq ht hr hin hd (fun H1 locs1 p1 d1 S1 => kk H1 locs1 ls (kw H1 (Nat.le_trans hN S1.1) p1 d1) S1 hL)
/-! new cells -/
def zNew (own : String) (index ci N : Nat) (fs : List Value) : Prop := ∃ (C : String) (T : u_T) (ty : Nat → FieldType), zCl[ci]? = some (C, T, N) ∧ (∀ w ∈ u_ws C T N, w ∈ zT) ∧ (∀ j, j < N → parseFieldDescriptor (T j).2.2.1 = some (ty j)) ∧ Cond.classLink own index C ∈ zT ∧ Cond.instantiable C N ∈ zT ∧ Cond.initialized C ∈ zT ∧ ∀ j, j < N → defaultValue (ty j) = vp_V fs j
theorem v_new (C : zOK p l e R s m args below meth c G cc nL own) {index ci N : Nat} {fs : List Value} (F : zNew own index ci N fs) (hc : cs + 1 ≤ R.cells) (hs : sl + N ≤ R.slots) (hd : decode cc pc = .ok (.new index, 3)) (kk : ∀ q : Nat, gN G ≤ q → h q = none → V p l e R s m args below meth c G nL Q (zup h q (.inr (ci, fs))) (cs + 1) (sl + N) (pc + 3) lv (.ref q :: st)) : V p l e R s m args below meth c G nL Q h cs sl pc lv st := by
  obtain ⟨hx, hb, -, hown, hts, hK, -, hN, -⟩ := C
  obtain ⟨C', T, ty, f1, f2, f3, f4, f5, f6, f7⟩ := F
  intro H locs ls hP hS hL
  refine hP.new (fun ws p d kw => ?_)
  exact va_new (D := gD G) (cl := zCl) hx hb hts f2 ty f3 hown (hts _ f4) (hts _ f5) (hts _ f6) hK.1 p d hS (fun q hq => Nat.le_trans hN hq) f1 f7 hc hs hd (fun q H1 p1 d1 S1 => by
    obtain ⟨g1, g2, g3⟩ := kw q _ H1 (Nat.le_trans hN S1.1) p1 d1
    exact kk q g1 g2 H1 locs ls g3 S1 hL)
theorem v_newa (C : zOK p l e R s m args below meth c G cc nL own) {atype : ArrayType} {ty : FieldType} {ca : ClassId} {n : Int32} {N : Nat} {z : vp_A} (t : Nat) (ht : (zTy (gc G))[t]? = some (ca, ty)) (hty : newarray.typeOf atype = ty) (hpr : refKind ty = false) (hw : Cond.arrayClass (newarray.typeOf atype) ∈ zT) (hz : ∀ cA : ClassId, vp_cell cA z = arrV cA N (fun _ => defaultValue ty)) (hn : ¬ n < 0) (hN : n.toNatClampNeg = N) (hby : N * componentBytes ty ≤ 536870912) (hc : cs + 1 ≤ R.cells) (hs : sl + N ≤ R.slots) (hd : decode cc pc = .ok (.newarray atype, 2)) (kk : ∀ q : Nat, gN G ≤ q → h q = none → V p l e R s m args below meth c G nL Q (zup h q (.inl (ca, z))) (cs + 1) (sl + N) (pc + 2) lv (.ref q :: st)) : V p l e R s m args below meth c G nL Q h cs sl pc lv (.int n :: st) := by
  obtain ⟨hx, hb, -, hown, hts, hK, -, hN0, -⟩ := C
  intro H locs ls hP hS hL
  refine hP.new (fun ws p d kw => ?_)
  exact va_newa (a0 := z) hx hb (hts _ hw) hty hK.1 p d hS (fun q hq => Nat.le_trans hN0 hq) hz hn hN hby hc hs hd (fun q cA H1 K1 p1 d1 S1 => by
    have e1 := (K1.2 (zTy (gc G)).length (cA, ty) (by rw [List.getElem?_append_right (Nat.le_refl _), Nat.sub_self]; rfl)).2
    have e2 := (hK.1.2 t _ ht).2
    have e3 : cA = ca := by
      cases ty with
      | object _ => cases hpr
      | _ => exact Option.some.inj (Eq.trans (Eq.symm e1) e2)
    subst e3
    obtain ⟨g1, g2, g3⟩ := kw q _ H1 (Nat.le_trans hN0 S1.1) p1 d1
    exact kk q g1 g2 H1 locs ls g3 S1 hL)
theorem v_newq (C : zOK p l e R s m args below meth c G cc nL own) {index : Nat} {E : String} {ca : ClassId} {n : Int32} {N : Nat} (t : Nat) (ht : (zTy (gc G))[t]? = some (ca, .object E)) (hw : Cond.classLink own index E ∈ zT) (hw2 : Cond.arrayOver (.object E) ∈ zT) (hn : ¬ n < 0) (hN : n.toNatClampNeg = N) (hby : N * 4 ≤ 536870912) (hc : cs + 1 ≤ R.cells) (hs : sl + N ≤ R.slots) (hd : decode cc pc = .ok (.anewarray index, 3)) (kk : ∀ q : Nat, gN G ≤ q → h q = none → V p l e R s m args below meth c G nL Q (zup h q (.inl (ca, N, .inr (.inr (.inr (.inr (fun _ => none))))))) (cs + 1) (sl + N) (pc + 3) lv (.ref q :: st)) : V p l e R s m args below meth c G nL Q h cs sl pc lv (.int n :: st) := by
  obtain ⟨hx, hb, -, hown, hts, hK, -, hN0, -⟩ := C
  intro H locs ls hP hS hL
  refine hP.new (fun ws p d kw => ?_)
  exact va_newq hx hb hown (hts _ hw) (va_AO.of (hts _ hw2)) hK.1 p d hS (fun q hq => Nat.le_trans hN0 hq) hn hN hby hc hs hd (fun q cA H1 K1 p1 d1 S1 => by
    obtain ⟨-, -, -, -, -, e1⟩ := (K1.2 (zTy (gc G)).length (cA, .object E) (by rw [List.getElem?_append_right (Nat.le_refl _), Nat.sub_self]; rfl)).2
    obtain ⟨-, -, -, -, -, e2⟩ := (hK.1.2 t _ ht).2
    cases e1.symm.trans e2
    obtain ⟨g1, g2, g3⟩ := kw q _ H1 (Nat.le_trans hN0 S1.1) p1 d1
    exact kk q g1 g2 H1 locs ls g3 S1 hL)
/-! contracts: from every heap that holds h, the method returns, and the heap holds an h2 of which Post speaks -/
def rmm (n mc ms : Nat) : Room := { frames := n, cells := mc, slots := ms, locals := 40 * n }
def zPre (G : zG) (av : List Value) (h : zH) : Array Value → State → Prop := va_Pc av (fun U => zK G U ∧ zZ G U U.heap ∧ zPw G h U.heap)
def zQ {α : Type} (emb : α → Option Value) (G : zG) (Post : α → zH → Prop) : Array Value → State → Outcome → State → Prop := fun _ st o t => (∃ (r : α) (h2 : zH), o = .returned (emb r) ∧ Post r h2 ∧ zPw G h2 t.heap) ∧ va_F (zA G) st t
def zX (G : zG) (X : String → zH → Prop) : String → State → State → Prop := fun E st t => (∃ h2 : zH, X E h2 ∧ zPw G h2 t.heap) ∧ va_F (zA G) st t
def zMet {α : Type} (emb : α → Option Value) (l : Launch) (y : MethodName) (bytes : ByteArray) (maxL : Nat) (ret : Option FieldType) (n mc ms : Nat) (G : zG) (av : List Value) (h : zH) (Post : α → zH → Prop) : Prop :=
  Met l y (Cond.code y bytes maxL ret :: zT) (rmm n mc ms) (zPre G av h) (zQ emb G Post) mc ms (zA G)
def zMetX {α : Type} (emb : α → Option Value) (l : Launch) (y : MethodName) (bytes : ByteArray) (maxL : Nat) (ret : Option FieldType) (n mc ms : Nat) (G : zG) (av : List Value) (h : zH) (Post : α → zH → Prop) (X : String → zH → Prop) : Prop :=
  vx_Met l y (Cond.code y bytes maxL ret :: zT) (rmm n mc ms) (zPre G av h) (zQ emb G Post) (zX G X) mc ms (zA G)
abbrev eI : Int32 → Option Value := fun x => some (.int x)
abbrev eL : Int64 → Option Value := fun x => some (.long x)
abbrev eR : Nat → Option Value := fun x => some (.ref x)
abbrev eQ : Option Nat → Option Value := fun x => some (va_rf x)
abbrev eV : Unit → Option Value := fun _ => none
theorem zPre_blind {G : zG} {av : List Value} {h : zH} : FrameBlind (zPre G av h) := fun a U g mk q => by
  obtain ⟨q0, qK, qZ, qP⟩ := q
  have hw : U.WarmedH (U.calling g mk a).vm := State.WarmedH.refl U
  exact ⟨q0, qK.moved hw, qZ.moved hw.alike, qP⟩
theorem zTs {y : MethodName} {bytes : ByteArray} {maxL : Nat} {ret : Option FieldType} (hc : Cond.code y bytes maxL ret ∈ zT) : GoodIn zT (Cond.code y bytes maxL ret :: zT) := fun w hw => (List.mem_cons.mp hw).elim (fun e => by rw [e]; exact zT_in _ hc) (zT_in w)
/-- what the tables say of a call: the link, the callee's code -/
def zCS (own : String) (index : Nat) (y : MethodName) (bytes : ByteArray) (maxL : Nat) (ret : Option FieldType) (n : Nat) : Prop := (Cond.methodLink own index y ∈ zT ∨ ∃ host, Cond.methodLinkNest own index y host ∈ zT) ∧ Cond.static y ∈ zT ∧ Cond.initialized y.cls ∈ zT ∧ Cond.code y bytes maxL ret ∈ zT ∧ y.cls ≠ "java/lang/invoke/MethodHandle" ∧ y.cls ≠ "java/lang/invoke/VarHandle" ∧ (parseMethodDescriptor y.desc).map (fun d => d.parameters.length) = some n
def zCV (own : String) (index ci : Nat) (y : MethodName) (bytes : ByteArray) (maxL : Nat) (ret : Option FieldType) (n : Nat) : Prop := ∃ (C : String) (T : u_T) (N : Nat), zCl[ci]? = some (C, T, N) ∧ Cond.methodLink own index y ∈ zT ∧ Cond.instanceMethod y ∈ zT ∧ Cond.selects C y y ∈ zT ∧ Cond.initialized y.cls ∈ zT ∧ Cond.code y bytes maxL ret ∈ zT ∧ y.cls ≠ "java/lang/invoke/MethodHandle" ∧ y.cls ≠ "java/lang/invoke/VarHandle" ∧ (parseMethodDescriptor y.desc).map (fun d => d.parameters.length) = some n
def zCI (own : String) (index : Nat) (y : MethodName) (bytes : ByteArray) (maxL : Nat) (n : Nat) : Prop := (Cond.methodLink own index y ∈ zT ∨ ∃ host, Cond.methodLinkNest own index y host ∈ zT) ∧ Cond.instanceMethod y ∈ zT ∧ y.name = "<init>" ∧ Cond.initialized y.cls ∈ zT ∧ Cond.code y bytes maxL none ∈ zT ∧ y.cls ≠ "java/lang/invoke/MethodHandle" ∧ y.cls ≠ "java/lang/invoke/VarHandle" ∧ (parseMethodDescriptor y.desc).map (fun d => d.parameters.length) = some n
/-- behind a call -/
theorem v_after {α : Type} {emb : α → Option Value} {mc ms : Nat} {st0 rest : List Value} {Post : α → zH → Prop} {a : Array Value} {H : Heap} {locs : List Loc} {ls : Array Slot} (hN : gN G ≤ s.heap.size) (hr : va_Run p l e R s m args below meth c H locs cs sl mc ms (F0 m pc ls st0) rest (zQ emb G Post a) (zA G)) (hS : va_S (zA G) s.heap H locs) (hL : lv_has ls nL lv) (kk : ∀ (r : α) (h2 : zH), Post r h2 → V p l e R s m args below meth c G nL Q h2 (cs + mc) (sl + ms) (pc + 3) lv ((emb r).toList ++ rest)) : W p l e R s m args below meth c H locs cs sl Q (F0 m pc ls st0) := by
  intro T hT X
  obtain ⟨v, st₀, t, T', L, h0, X', hLf, e1, e2, ⟨⟨r, h2, hv, hp, hw⟩, hF⟩, st⟩ := hr T hT X
  cases hv
  obtain ⟨k1, k2, k3⟩ := vx_keep h0 e1 hS (fun q _ hq => hq) (fun q hq => hq) hLf hF
  obtain ⟨t2, a1, b1⟩ := kk r h2 hp T'.heap (locs ++ L) ls (by rw [e1]; exact hw) k3 hL T' rfl X'
  exact ⟨t2, st t2 a1, b1⟩
theorem zPre_at {U : State} {H : Heap} {av : List Value} (C : zOK p l e R s m args below meth c G cc nL own) (hP : zPw G h H) {locs : List Loc} (hS : va_S (zA G) s.heap H locs) (hU : U.heap = H) (hW : s.WarmedH U.vm) : zPre G av h av.toArray U := by
  obtain ⟨-, -, -, -, -, hK, hZ, -⟩ := C
  exact ⟨rfl, hK.moved hW, by rw [hU]; exact (hZ.kept hS.2.1).moved hW.alike, by rw [hU]; exact hP⟩
theorem v_callS {α : Type} {emb : α → Option Value} {y : MethodName} {bytes : ByteArray} {maxL n index fr mc ms : Nat} {ret : Option FieldType} {As st0 rest : List Value} {Post : α → zH → Prop} (C : zOK p l e R s m args below meth c G cc nL own) (hM : zMet emb l y bytes maxL ret fr mc ms G As h Post) (F : zCS own index y bytes maxL ret n) (hn : As.length = n) (hst : st0 = As.reverse ++ rest) (hW : (rest.map fun v => v.category).sum ≤ 8) (hR : fr + 1 ≤ R.frames ∧ 8 + (maxL + 11) + 40 * fr ≤ R.locals) (hf : cs + mc ≤ R.cells ∧ sl + ms ≤ R.slots) (hd : decode cc pc = .ok (.invokestatic index, 3)) (kk : ∀ (r : α) (h2 : zH), Post r h2 → V p l e R s m args below meth c G nL Q h2 (cs + mc) (sl + ms) (pc + 3) lv ((emb r).toList ++ rest)) : V p l e R s m args below meth c G nL Q h cs sl pc lv st0 := by
  obtain ⟨f1, f2, f3, f4, f5, f6, f7⟩ := F
  intro H locs ls hP hS hL
  obtain ⟨hx, hb, hml, hown, hts, hK, hZ, hN, -⟩ := id C
  have pre : PreS s H (zPre G As h) As := ⟨zPre_blind, fun U hU hWm => zPre_at C hP hS hU hWm⟩
  refine v_after (st0 := st0) (rest := rest) (a := As.toArray) hN ?_ hS hL kk
  rcases f1 with f1 | ⟨host, f1⟩
  · exact va_runS ⟨hx, hb, hml, hown, hts⟩ hM ⟨callB_of n hts (zTs f4) rfl rfl rfl (hts _ f3) (hts _ f1) ⟨f5, f6, f7⟩ hR, hts _ f2⟩ pre rfl hn hL.1 hst (lv_room hW) hd hf
  · exact va_runSN ⟨hx, hb, hml, hown, hts⟩ hM ⟨va_cnB n hts (zTs f4) rfl rfl rfl (va_Nw.of rfl (hts _ f1)) (hts _ f3) ⟨f5, f6, f7⟩ hR, hts _ f2, trivial⟩ pre rfl hn hL.1 hst (lv_room hW) hd hf
theorem v_callI {y : MethodName} {bytes : ByteArray} {maxL n index fr mc ms b : Nat} {As st0 rest : List Value} {Post : Unit → zH → Prop} (C : zOK p l e R s m args below meth c G cc nL own) (hM : zMet eV l y bytes maxL none fr mc ms G (.ref b :: As) h Post) (F : zCI own index y bytes maxL n) (hn : As.length = n) (hst : st0 = As.reverse ++ .ref b :: rest) (hW : (rest.map fun v => v.category).sum ≤ 8) (hR : fr + 1 ≤ R.frames ∧ 8 + (maxL + 11) + 40 * fr ≤ R.locals) (hf : cs + mc ≤ R.cells ∧ sl + ms ≤ R.slots) (hd : decode cc pc = .ok (.invokespecial index, 3)) (kk : ∀ (h2 : zH), Post () h2 → V p l e R s m args below meth c G nL Q h2 (cs + mc) (sl + ms) (pc + 3) lv rest) : V p l e R s m args below meth c G nL Q h cs sl pc lv st0 := by
  obtain ⟨f1, f2, f3, f4, f5, f6, f7, f8⟩ := F
  intro H locs ls hP hS hL
  obtain ⟨hx, hb, hml, hown, hts, hK, hZ, hN, -⟩ := id C
  have pre : PreS s H (zPre G (.ref b :: As) h) (.ref b :: As) := ⟨zPre_blind, fun U hU hWm => zPre_at C hP hS hU hWm⟩
  refine v_after (emb := eV) (st0 := st0) (rest := rest) (a := (Value.ref b :: As).toArray) hN ?_ hS hL (fun r h2 hp => kk h2 hp)
  rcases f1 with f1 | ⟨host, f1⟩
  · exact va_runI ⟨hx, hb, hml, hown, hts⟩ hM ⟨callB_of n hts (zTs f5) rfl rfl rfl (hts _ f4) (hts _ f1) ⟨f6, f7, f8⟩ hR, f3, hts _ f2⟩ pre rfl hn hL.1 hst (lv_room hW) hd hf
  · exact va_runIN ⟨hx, hb, hml, hown, hts⟩ hM ⟨va_cnB n hts (zTs f5) rfl rfl rfl (va_Nw.of rfl (hts _ f1)) (hts _ f4) ⟨f6, f7, f8⟩ hR, f3, hts _ f2⟩ pre rfl hn hL.1 hst (lv_room hW) hd hf
theorem v_callV {α : Type} {emb : α → Option Value} {y : MethodName} {bytes : ByteArray} {maxL n index fr mc ms b ci : Nat} {ret : Option FieldType} {As st0 rest fs : List Value} {Post : α → zH → Prop} (C : zOK p l e R s m args below meth c G cc nL own) (hM : zMet emb l y bytes maxL ret fr mc ms G (.ref b :: As) h Post) (F : zCV own index ci y bytes maxL ret n) (ha : h b = some (.inr (ci, fs))) (hn : As.length = n) (hst : st0 = As.reverse ++ .ref b :: rest) (hW : (rest.map fun v => v.category).sum ≤ 8) (hR : fr + 1 ≤ R.frames ∧ 8 + (maxL + 11) + 40 * fr ≤ R.locals) (hf : cs + mc ≤ R.cells ∧ sl + ms ≤ R.slots) (hd : decode cc pc = .ok (.invokevirtual index, 3)) (kk : ∀ (r : α) (h2 : zH), Post r h2 → V p l e R s m args below meth c G nL Q h2 (cs + mc) (sl + ms) (pc + 3) lv ((emb r).toList ++ rest)) : V p l e R s m args below meth c G nL Q h cs sl pc lv st0 := by
  obtain ⟨C', T, N, f0, f1, f2, f3, f4, f5, f6, f7, f8⟩ := F
  intro H locs ls hP hS hL
  obtain ⟨hx, hb, hml, hown, hts, hK, hZ, hN, -⟩ := id C
  have pre : PreV s H C' b (zPre G (.ref b :: As) h) As := ⟨zPre_blind, va_recv hK.1 (hP.one ha) f0 (q0 := 0) rfl, fun U hU hWm => zPre_at C hP hS hU hWm⟩
  refine v_after (st0 := st0) (rest := rest) (a := (Value.ref b :: As).toArray) hN ?_ hS hL kk
  exact va_runV ⟨hx, hb, hml, hown, hts⟩ hM ⟨callB_of n hts (zTs f5) rfl rfl rfl (hts _ f4) (hts _ f1) ⟨f6, f7, f8⟩ hR, hts _ f2, hts _ f3⟩ pre rfl hn hL.1 hst (lv_room hW) hd hf
/-! ends and bodies -/
def zFin {α : Type} (emb : α → Option Value) (p : Program) (l : Launch) (e : Env) (R : Room) (s : State) (m : MethodId) (args : Array Value) (below : List Frame) (meth : Method) (c : Code) (G : zG) (mc ms : Nat) (Post : α → zH → Prop) (Q : State → Prop) : Prop := ∀ (H : Heap) (locs : List Loc) (g : JFrame), W p l e R s m args below meth c H locs mc ms (MQ below (zQ emb G Post) args s mc ms (zA G)) g → W p l e R s m args below meth c H locs mc ms Q g
theorem v_iret (C : zOK p l e R s m args below meth c G cc nL own) {mc ms : Nat} {Post : Int32 → zH → Prop} {ty : FieldType} {r : Int32} (hQ : zFin eI p l e R s m args below meth c G mc ms Post Q) (hr : meth.sig.returnType = some ty) (hn : narrow ty (.int r) = .int r) (hc : cs ≤ mc) (hs : sl ≤ ms) (hd : decode cc pc = .ok (.ireturn, 1)) (hp : Post r h) : V p l e R s m args below meth c G nL Q h cs sl pc lv [.int r] := by
  obtain ⟨hx, hb, -, -, -, -, -, -, hlk, -⟩ := C
  intro H locs ls hP hS hL
  refine W.widen hc hs (hQ _ _ _ ?_)
  exact W.zret hx hb hr hn (fun t ht hW => ⟨⟨r, h, rfl, hp, by rw [ht]; exact hP⟩, hS.F ht⟩) hS.2.2 hd (hlocks := hlk)
theorem v_lret (C : zOK p l e R s m args below meth c G cc nL own) {mc ms : Nat} {Post : Int64 → zH → Prop} {r : Int64} (hQ : zFin eL p l e R s m args below meth c G mc ms Post Q) (hr : meth.sig.returnType = some .long) (hc : cs ≤ mc) (hs : sl ≤ ms) (hd : decode cc pc = .ok (.lreturn, 1)) (hp : Post r h) : V p l e R s m args below meth c G nL Q h cs sl pc lv [.long r] := by
  obtain ⟨hx, hb, -, -, -, -, -, -, hlk, -⟩ := C
  intro H locs ls hP hS hL
  refine W.widen hc hs (hQ _ _ _ ?_)
  exact W.lret hx hb hr (fun t ht hW => ⟨⟨r, h, rfl, hp, by rw [ht]; exact hP⟩, hS.F ht⟩) hS.2.2 hd (hlocks := hlk)
theorem v_vret (C : zOK p l e R s m args below meth c G cc nL own) {mc ms : Nat} {Post : Unit → zH → Prop} (hQ : zFin eV p l e R s m args below meth c G mc ms Post Q) (hr : meth.sig.returnType = none) (hc : cs ≤ mc) (hs : sl ≤ ms) (hd : decode cc pc = .ok (.return_, 1)) (hp : Post () h) : V p l e R s m args below meth c G nL Q h cs sl pc lv [] := by
  obtain ⟨hx, hb, -, -, -, -, -, -, hlk, -⟩ := C
  intro H locs ls hP hS hL
  refine W.widen hc hs (hQ _ _ _ ?_)
  exact W.vret hx hb hr (fun t ht hW => ⟨⟨(), h, rfl, hp, by rw [ht]; exact hP⟩, hS.F ht⟩) hS.2.2 hd (hlocks := hlk)
theorem v_aret (C : zOK p l e R s m args below meth c G cc nL own) {mc ms : Nat} {Post : Nat → zH → Prop} {ty : FieldType} {r : Nat} (hQ : zFin eR p l e R s m args below meth c G mc ms Post Q) (hr : meth.sig.returnType = some ty) (hty : (∃ n, ty = .object n) ∨ ∃ t, ty = .array t) (hc : cs ≤ mc) (hs : sl ≤ ms) (hd : decode cc pc = .ok (.areturn, 1)) (hp : Post r h) : V p l e R s m args below meth c G nL Q h cs sl pc lv [.ref r] := by
  obtain ⟨hx, hb, -, -, -, -, -, -, hlk, -⟩ := C
  intro H locs ls hP hS hL
  refine W.widen hc hs (hQ _ _ _ ?_)
  exact W.aret hx hb hr hty (Or.inr ⟨r, rfl⟩) (fun t ht hW => ⟨⟨r, h, rfl, hp, by rw [ht]; exact hP⟩, hS.F ht⟩) hS.2.2 hd (hlocks := hlk)
end ZR
theorem con_of {α : Type} {emb : α → Option Value} {l : Launch} {y : MethodName} {bytes : ByteArray} {maxL n mc ms : Nat} {ret : Option FieldType} {G : zG} {av : List Value} {h : zH} {Post : α → zH → Prop} (hl : l.stackTraces = false) (own : String) (ho : y.cls = own) (hy : plainFor y = true) (lv0 : List (Nat × Value)) (hlv : lv_args 0 av = lv0) (hav : (lg_sl av).length ≤ maxL)
    (body : ∀ p e s m args below meth c, zOK p l e (rmm n mc ms) s m args below meth c G bytes maxL own → meth.sig.returnType = ret → meth.name = y.name → ∀ Q, zFin emb p l e (rmm n mc ms) s m args below meth c G mc ms Post Q → V p l e (rmm n mc ms) s m args below meth c G maxL Q h 0 0 0 lv0 []) : zMet emb l y bytes maxL ret n mc ms G av h Post := by
  refine va_MetF (cc := bytes) (maxL := maxL) (ret := ret) hy rfl ?_
  intro p e s m args below meth c s₁ B hml hv
  obtain ⟨rfl, hK, hZ, hP⟩ := hv
  have hts : ∀ w ∈ zT, w.before av.toArray s = true := fun w hw => atoms_spec (ws := Cond.code y bytes maxL ret :: zT) B.pre w (List.mem_cons_of_mem _ hw)
  have hown : s.vm.findClass own = some m.cls := by rw [← ho]; exact findClass_of_methodNamed B.named
  have hln := lv_entry av (n := maxL) hav
  rw [lg_entry_eq]
  rw [hlv] at hln
  exact body p e s m av.toArray below meth c ⟨B.exec, B.bytes, hml, hown, hts, hK, hZ, hP.1, B.notSynchronized, hl⟩ B.returns (name_of_methodNamed B.named B.method).1 _ (fun _ _ _ w => w) s.heap [] _ hP va_S.rf hln
theorem con_ofX {α : Type} {emb : α → Option Value} {l : Launch} {y : MethodName} {bytes : ByteArray} {maxL n mc ms : Nat} {ret : Option FieldType} {G : zG} {av : List Value} {h : zH} {Post : α → zH → Prop} {X : String → zH → Prop} (hl : l.stackTraces = false) (own : String) (ho : y.cls = own) (hy : plainName y.cls = true) (lv0 : List (Nat × Value)) (hlv : lv_args 0 av = lv0) (hav : (lg_sl av).length ≤ maxL)
    (body : ∀ p e s m args below meth c, zOK p l e (rmm n mc ms) s m args below meth c G bytes maxL own → meth.sig.returnType = ret → meth.name = y.name → (∀ x ∈ c.exceptionTable.toList, False) → zFin emb p l e (rmm n mc ms) s m args below meth c G mc ms Post (vx_MQ below (zQ emb G Post) (zX G X) args s mc ms (zA G)) → V p l e (rmm n mc ms) s m args below meth c G maxL (vx_MQ below (zQ emb G Post) (zX G X) args s mc ms (zA G)) h 0 0 0 lv0 []) : zMetX emb l y bytes maxL ret n mc ms G av h Post X := by
  refine vx_ofW (cc := bytes) (maxL := maxL) (ret := ret) hy rfl ?_
  intro p e s m args below meth c s₁ B hml hto hv
  obtain ⟨rfl, hK, hZ, hP⟩ := hv
  have hts : ∀ w ∈ zT, w.before av.toArray s = true := fun w hw => atoms_spec (ws := Cond.code y bytes maxL ret :: zT) B.pre w (List.mem_cons_of_mem _ hw)
  have hown : s.vm.findClass own = some m.cls := by rw [← ho]; exact findClass_of_methodNamed B.named
  have hln := lv_entry av (n := maxL) hav
  rw [lg_entry_eq]
  rw [hlv] at hln
  exact body p e s m av.toArray below meth c ⟨B.exec, B.bytes, hml, hown, hts, hK, hZ, hP.1, B.notSynchronized, hl⟩ B.returns (name_of_methodNamed B.named B.method).1 hto (fun _ _ _ w => vx_ret w) s.heap [] _ hP va_S.rf hln
section ZR
variable {p : Program} {l : Launch} {e : Env} {R : Room} {s : State} {m : MethodId} {args : Array Value} {below : List Frame} {meth : Method} {c : Code} {G : zG} {cc : ByteArray} {nL : Nat} {own : String} {Q : State → Prop} {h : zH} {cs sl pc : Nat} {lv : List (Nat × Value)} {st : List Value}
/-! throwing -/
def zThr (own cls text : String) (ik is ic : Nat) : Prop := own = RX4 ∧ Bundle.fit cls = true ∧ Cond.classLink own ik cls ∈ zT ∧ Cond.initialized cls ∈ zT ∧ (∀ w ∈ vx_atS own ic cls ["java/lang/RuntimeException", "java/lang/Exception"], w ∈ zT) ∧ (is, text) ∈ zStrW
theorem zNames : ∀ n ∈ ["java/lang/RuntimeException", "java/lang/Exception"], Bundle.fit n = true := by decide +kernel
theorem vx_ot_zT {w : Cond} (h : w ∈ zT) : vx_ot w = true := by
  simp only [vx_ot, Bool.or_eq_true]
  exact Or.inr (List.mem_filter.mp h).2
theorem zThrHx {G : zG} {h : zH} {X : String → zH → Prop} {H : Heap} {locs : List Loc} {s : State} {cls : String} (hP : zPw G h H) (hS : va_S (zA G) s.heap H locs) (hX : X cls h) : ∀ t : State, s.vm.Alike t.vm → H.size ≤ t.heap.size → (∀ q : Nat, q < H.size → t.heap[q]? = H[q]?) → zX G X cls s t := fun t _ hz hq => ⟨⟨h, hX, hP.kept hz hq⟩, Nat.le_trans hS.1 hz, fun q h1 h2 => (hq q (Nat.lt_of_lt_of_le h1 hS.1)).trans (hS.2.1 q h1 h2)⟩
theorem v_throwS {α : Type} {emb : α → Option Value} (C : zOK p l e R s m args below meth c G cc nL own) {cls text : String} {ik is ic mc ms : Nat} {Post : α → zH → Prop} {X : String → zH → Prop} (F : zThr own cls text ik is ic) (hto : ∀ x ∈ c.exceptionTable.toList, False) (d0 : decode cc pc = .ok (.new ik, 3)) (d3 : decode cc (pc + 3) = .ok (.dup, 1)) (d4 : decode cc (pc + 4) = .ok (.ldc is, 2)) (d6 : decode cc (pc + 6) = .ok (.invokespecial ic, 3)) (d9 : decode cc (pc + 9) = .ok (.athrow, 1)) (hf : 2 + 3 < R.frames) (hlo : (st.map fun v => v.category).sum + 82 ≤ R.locals) (hc : cs + 1 ≤ mc ∧ cs + 1 ≤ R.cells) (hs : sl + 6 ≤ ms ∧ sl + 6 ≤ R.slots) (hX : X cls h) : V p l e R s m args below meth c G nL (vx_MQ below (zQ emb G Post) (zX G X) args s mc ms (zA G)) h cs sl pc lv st := by
  obtain ⟨hx, hb, hml, hown, hts, hK, hZ, hN, hlk, hst⟩ := C
  obtain ⟨f0, f1, f2, f3, f4, f5⟩ := F
  intro H locs ls hP hS hL
  exact vx_throwS hx hb hst hown f1 zNames (hts _ f2) (hts _ f3) (by have q := hK.2 _ f5; rw [f0]; exact q) (fun w hw => hts _ (f4 w hw)) (fun w hw => by
    rcases List.mem_cons.mp hw with rfl | hw
    · exact vx_ot_zT f2
    · rcases List.mem_cons.mp hw with rfl | hw
      · exact vx_ot_zT f3
      · exact vx_ot_zT (f4 w hw)) hZ.2.1.2.1 hZ.2.1.2.2 hS (hL.1.trans hml.symm) d0 d3 d4 d6 d9 (fun x hx => (hto x hx).elim) hf hlo hc.2 hs.2 hlk (zThrHx hP hS hX) hS.2.2 hc.1 hs.1
theorem v_throwSW {α : Type} {emb : α → Option Value} (C : zOK p l e R s m args below meth c G cc nL own) {cls text : String} {ik is ic mc ms : Nat} {Post : α → zH → Prop} {X : String → zH → Prop} (F : zThr own cls text ik is ic) (hto : ∀ x ∈ c.exceptionTable.toList, False) (d0 : decode cc pc = .ok (.new ik, 3)) (d3 : decode cc (pc + 3) = .ok (.dup, 1)) (d4 : decode cc (pc + 4) = .ok (.ldc_w is, 3)) (d6 : decode cc (pc + 7) = .ok (.invokespecial ic, 3)) (d9 : decode cc (pc + 10) = .ok (.athrow, 1)) (hf : 2 + 3 < R.frames) (hlo : (st.map fun v => v.category).sum + 82 ≤ R.locals) (hc : cs + 1 ≤ mc ∧ cs + 1 ≤ R.cells) (hs : sl + 6 ≤ ms ∧ sl + 6 ≤ R.slots) (hX : X cls h) : V p l e R s m args below meth c G nL (vx_MQ below (zQ emb G Post) (zX G X) args s mc ms (zA G)) h cs sl pc lv st := by
  obtain ⟨hx, hb, hml, hown, hts, hK, hZ, hN, hlk, hst⟩ := C
  obtain ⟨f0, f1, f2, f3, f4, f5⟩ := F
  intro H locs ls hP hS hL
  exact vx_throwSW hx hb hst hown f1 zNames (hts _ f2) (hts _ f3) (by have q := hK.2 _ f5; rw [f0]; exact q) (fun w hw => hts _ (f4 w hw)) (fun w hw => by
    rcases List.mem_cons.mp hw with rfl | hw
    · exact vx_ot_zT f2
    · rcases List.mem_cons.mp hw with rfl | hw
      · exact vx_ot_zT f3
      · exact vx_ot_zT (f4 w hw)) hZ.2.1.2.1 hZ.2.1.2.2 hS (hL.1.trans hml.symm) d0 d3 d4 d6 d9 (fun x hx => (hto x hx).elim) hf hlo hc.2 hs.2 hlk (zThrHx hP hS hX) hS.2.2 hc.1 hs.1
/-! statics, constants, casts -/
theorem v_gets (C : zOK p l e R s m args below meth c G cc nL own) {C' n d : String} {v : Value} {index : Nat} (hz : va_Z C' n d v (zA G) s s.heap) (hw : Cond.fieldLink own index C' n d ∈ zT) (hd : decode cc pc = .ok (.getstatic index, 3)) (kk : V p l e R s m args below meth c G nL Q h cs sl (pc + 3) lv (v :: st)) : V p l e R s m args below meth c G nL Q h cs sl pc lv st := fun H locs ls hP hS hL => va_gets C.1 C.2.1 hz hS C.2.2.2.1 (C.2.2.2.2.1 _ hw) (fun _ hx => hx) hd (kk H locs ls hP hS hL)
theorem v_getsq (C : zOK p l e R s m args below meth c G cc nL own) {C' n d : String} {index : Nat} (hz : va_Zq C' n d (zA G) s s.heap) (hw : Cond.fieldLink own index C' n d ∈ zT) (hd : decode cc pc = .ok (.getstatic index, 3)) (kk : ∀ v : Value, (v = .null ∨ ∃ t, v = .ref t) → V p l e R s m args below meth c G nL Q h cs sl (pc + 3) lv (v :: st)) : V p l e R s m args below meth c G nL Q h cs sl pc lv st := by
  rcases hz with hz | ⟨t, hz⟩
  · exact v_gets C hz hw hd (kk _ (Or.inl rfl))
  · exact v_gets C hz hw hd (kk _ (Or.inr ⟨t, rfl⟩))
theorem v_tb (C : zOK p l e R s m args below meth c G cc nL own) {t N : Nat} {f : Nat → Value} {i : Int32} {v : Value} (hT : va_T .byte t N f (zA G) s s.heap) (hin : vp_in i N) (hv : f i.toNatClampNeg = v) (hd : decode cc pc = .ok (.baload, 1)) (kk : V p l e R s m args below meth c G nL Q h cs sl (pc + 1) lv (v :: st)) : V p l e R s m args below meth c G nL Q h cs sl pc lv (.int i :: .ref t :: st) := fun H locs ls hP hS hL => va_tb C.1 C.2.1 hT hS hin hv hd (kk H locs ls hP hS hL)
theorem v_tlen (C : zOK p l e R s m args below meth c G cc nL own) {t N : Nat} {f : Nat → Value} {ty : FieldType} {v : Int32} (hT : va_T ty t N f (zA G) s s.heap) (hv : Int32.ofNat N = v) (hd : decode cc pc = .ok (.arraylength, 1)) (kk : V p l e R s m args below meth c G nL Q h cs sl (pc + 1) lv (.int v :: st)) : V p l e R s m args below meth c G nL Q h cs sl pc lv (.ref t :: st) := fun H locs ls hP hS hL => va_tlen C.1 C.2.1 hT hS hv hd (kk H locs ls hP hS hL)
theorem v_ldcS (C : zOK p l e R s m args below meth c G cc nL own) {index : Nat} {tx : String} (ho : own = RX4) (hq : (index, tx) ∈ zStrW) (hd : decode cc pc = .ok (.ldc index, 2)) (kk : V p l e R s m args below meth c G nL Q h cs sl (pc + 2) lv (.ref (gs G index) :: st)) : V p l e R s m args below meth c G nL Q h cs sl pc lv st := fun H locs ls hP hS hL => va_ldcS C.1 C.2.1 C.2.2.2.1 (by have q := C.2.2.2.2.2.1.2 _ hq; rw [ho]; exact q) hd (kk H locs ls hP hS hL)
def zCast (own : String) (index ci : Nat) : Prop := ∃ (C : String) (T : u_T) (N : Nat), zCl[ci]? = some (C, T, N) ∧ Cond.classLink own index C ∈ zT
theorem v_chk (C : zOK p l e R s m args below meth c G cc nL own) {a index ci : Nat} {fs : List Value} (F : zCast own index ci) (ha : h a = some (.inr (ci, fs))) (hd : decode cc pc = .ok (.checkcast index, 3)) (kk : V p l e R s m args below meth c G nL Q h cs sl (pc + 3) lv (.ref a :: st)) : V p l e R s m args below meth c G nL Q h cs sl pc lv (.ref a :: st) := by
  obtain ⟨C', T, N, f1, f2⟩ := F
  intro H locs ls hP hS hL
  exact va_castE C.1 C.2.1 C.2.2.2.1 (C.2.2.2.2.1 _ f2) (va_recv C.2.2.2.2.2.1.1 (hP.one ha) f1 (q0 := 0) rfl) hd (kk H locs ls hP hS hL)
/-! texts: a String made here, or a constant -/
def zTB (G : zG) (h : zH) (b n : Nat) (f : Nat → Int32) : Prop := h b = some (.inl (gc G 2, n, .inl f)) ∨ ∃ q ∈ zCon, b = gb G q.1 ∧ n = q.2.length ∧ f = fun j => nI (q.2.getD j 0)
def zTx (G : zG) (h : zH) (a b n : Nat) (f : Nat → Int32) : Prop := (h a = some (.inr (0, [.ref b, .int 0, .int 0, .int 0])) ∧ h b = some (.inl (gc G 2, n, .inl f))) ∨ ∃ q ∈ zCon, a = gs G q.1 ∧ b = gb G q.1 ∧ n = q.2.length ∧ f = fun j => nI (q.2.getD j 0)
theorem zTx.tb {G : zG} {h : zH} {a b n : Nat} {f : Nat → Int32} (ht : zTx G h a b n f) : zTB G h b n f := by
  rcases ht with ⟨-, ht⟩ | ⟨q, hq, -, h2, h3, h4⟩
  · exact Or.inl ht
  · exact Or.inr ⟨q, hq, h2, h3, h4⟩
theorem zTx.ext {G : zG} {h h2 : zH} {a b n : Nat} {f : Nat → Int32} (ht : zTx G h a b n f) (hx : ∀ a e, h a = some e → h2 a = some e) : zTx G h2 a b n f := by
  rcases ht with ⟨h1, ht⟩ | ht
  · exact Or.inl ⟨hx _ _ h1, hx _ _ ht⟩
  · exact Or.inr ht
theorem zTB.ext {G : zG} {h h2 : zH} {b n : Nat} {f : Nat → Int32} (ht : zTB G h b n f) (hx : ∀ a e, h a = some e → h2 a = some e) : zTB G h2 b n f := by
  rcases ht with h1 | ht
  · exact Or.inl (hx _ _ h1)
  · exact Or.inr ht
theorem zTx.recv {a b n : Nat} {f : Nat → Int32} {H : Heap} {locs : List Loc} (C : zOK p l e R s m args below meth c G cc nL own) (ht : zTx G h a b n f) (hP : zPw G h H) (hS : va_S (zA G) s.heap H locs) : ∃ cell : Cell, H[a]? = some cell ∧ cell.vm.isStatics = false ∧ s.vm.findClass RJ0 = some cell.cls := by
  rcases ht with ⟨h1, -⟩ | ⟨q, hq, rfl, -⟩
  · exact va_recv C.2.2.2.2.2.1.1 (hP.one h1) (q := (RJ0, TJ0, 4)) rfl (q0 := 0) rfl
  · obtain ⟨cell, h1, h2, h3, -⟩ := (C.2.2.2.2.2.2.1.2.2 q hq).1.kept hS.2.1
    exact ⟨cell, h1, h2, h3⟩
theorem v_getSV (C : zOK p l e R s m args below meth c G cc nL own) {a b n index : Nat} {f : Nat → Int32} (ht : zTx G h a b n f) (F : zFld own index 0 0) (hw : Cond.fieldLink own index "java/lang/String" "value" "[B" ∈ zT) (hd : decode cc pc = .ok (.getfield index, 3)) (kk : V p l e R s m args below meth c G nL Q h cs sl (pc + 3) lv (.ref b :: st)) : V p l e R s m args below meth c G nL Q h cs sl pc lv (.ref a :: st) := by
  rcases ht with ⟨h1, -⟩ | ⟨q, hq, rfl, rfl, -⟩
  · exact v_get C F h1 rfl hd kk
  · exact fun H locs ls hP hS hL => vk_getf C.1 C.2.1 (C.2.2.2.2.2.2.1.2.2 q hq).2.2.1 hS C.2.2.2.1 (C.2.2.2.2.1 _ hw) (fun _ hx => hx) hd (kk H locs ls hP hS hL)
theorem v_getSC (C : zOK p l e R s m args below meth c G cc nL own) {a b n index : Nat} {f : Nat → Int32} (ht : zTx G h a b n f) (F : zFld own index 0 1) (hw : Cond.fieldLink own index "java/lang/String" "coder" "B" ∈ zT) (hd : decode cc pc = .ok (.getfield index, 3)) (kk : V p l e R s m args below meth c G nL Q h cs sl (pc + 3) lv (.int 0 :: st)) : V p l e R s m args below meth c G nL Q h cs sl pc lv (.ref a :: st) := by
  rcases ht with ⟨h1, -⟩ | ⟨q, hq, rfl, rfl, -⟩
  · exact v_get C F h1 rfl hd kk
  · exact fun H locs ls hP hS hL => vk_getf C.1 C.2.1 (C.2.2.2.2.2.2.1.2.2 q hq).2.1 hS C.2.2.2.1 (C.2.2.2.2.1 _ hw) (fun _ hx => hx) hd (kk H locs ls hP hS hL)
theorem v_alenT (C : zOK p l e R s m args below meth c G cc nL own) {b n : Nat} {f : Nat → Int32} (ht : zTB G h b n f) (hd : decode cc pc = .ok (.arraylength, 1)) (kk : V p l e R s m args below meth c G nL Q h cs sl (pc + 1) lv (.int (nI n) :: st)) : V p l e R s m args below meth c G nL Q h cs sl pc lv (.ref b :: st) := by
  rcases ht with h1 | ⟨q, hq, rfl, rfl, -⟩
  · exact v_alen C 2 rfl h1 rfl hd kk
  · exact v_tlen C (C.2.2.2.2.2.2.1.2.2 q hq).2.2.2 rfl hd kk
theorem v_baldT (C : zOK p l e R s m args below meth c G cc nL own) {b n : Nat} {f : Nat → Int32} {i : Int32} (ht : zTB G h b n f) (hin : vp_in i n) (hd : decode cc pc = .ok (.baload, 1)) (kk : V p l e R s m args below meth c G nL Q h cs sl (pc + 1) lv (.int (f i.toNatClampNeg) :: st)) : V p l e R s m args below meth c G nL Q h cs sl pc lv (.int i :: .ref b :: st) := by
  rcases ht with h1 | ⟨q, hq, rfl, rfl, rfl⟩
  · exact v_bald C h1 hin hd kk
  · exact v_tb C (C.2.2.2.2.2.2.1.2.2 q hq).2.2.2 hin rfl hd kk
def zCpy (own : String) (index : Nat) : Prop := Cond.methodLink own index arraycopyName ∈ zT ∧ Cond.native arraycopyName ∈ zT ∧ Cond.static arraycopyName ∈ zT ∧ Cond.initialized "java/lang/System" ∈ zT
theorem v_copyT (C : zOK p l e R s m args below meth c G cc nL own) {a b n0 n1 index : Nat} {f g : Nat → Int32} {sp dp n : Int32} (F : zCpy own index) (ht : zTB G h b n0 f) (ha : h a = some (.inl (gc G 2, n1, .inl g))) (h1 : ¬ sp < 0) (h2 : ¬ dp < 0) (h3 : ¬ n < 0) (h4 : sp.toNatClampNeg + n.toNatClampNeg ≤ n0) (h5 : dp.toNatClampNeg + n.toNatClampNeg ≤ n1) (hfit : ∀ i : Nat, i < n.toNatClampNeg → fits .byte (.int (f (sp.toNatClampNeg + i))) = true) (hfr : 1 ≤ R.frames) (hlo : (st.map fun v => v.category).sum + (nativeFrameWords "java/lang/System" "arraycopy" 5 + 11) ≤ R.locals) (hd : decode cc pc = .ok (.invokestatic index, 3)) (kk : V p l e R s m args below meth c G nL Q (zup h a (.inl (gc G 2, n1, .inl (va_cpy f g sp.toNatClampNeg dp.toNatClampNeg n.toNatClampNeg)))) cs sl (pc + 3) lv st) : V p l e R s m args below meth c G nL Q h cs sl pc lv (.int n :: .int dp :: .ref a :: .int sp :: .ref b :: st) := by
  obtain ⟨w1, w2, w3, w4⟩ := F
  obtain ⟨hx, hb, hml, hown, hts, hK, hZ, hN, -⟩ := C
  intro H locs ls hP hS hL
  rcases ht with hb1 | ⟨q, hq, rfl, rfl, rfl⟩
  · exact hP.put2 ha hb1 (fun ws q0 q1 p d hq0 hq1 kw => va_copyi hx hb (hml.trans hL.1.symm) hown (hts _ w1) (hts _ w2) (hts _ w3) (hts _ w4) hK.1 p d hS q1 q0 2 2 hq1 hq0 rfl rfl rfl h1 h2 h3 h4 h5 hfit hfr hlo hd (fun H1 locs1 p1 d1 S1 => kk H1 locs1 ls (kw H1 (Nat.le_trans hN S1.1) p1 d1) S1 hL))
  · exact hP.put ha (fun ws q0 p d hq0 kw => vk_copyt hx hb (hml.trans hL.1.symm) hown (hts _ w1) (hts _ w2) (hts _ w3) (hts _ w4) hK.1 p d hS (hZ.2.2 q hq).2.2.2 q0 2 hq0 rfl h1 h2 h3 h4 h5 hfit hfr hlo hd (fun H1 locs1 p1 d1 S1 => kk H1 locs1 ls (kw H1 (Nat.le_trans hN S1.1) p1 d1) S1 hL))
theorem v_callT {α : Type} {emb : α → Option Value} {y : MethodName} {bytes : ByteArray} {maxL n index fr mc ms a b nn : Nat} {ff : Nat → Int32} {ret : Option FieldType} {As st0 rest : List Value} {Post : α → zH → Prop} (C : zOK p l e R s m args below meth c G cc nL own) (hM : zMet emb l y bytes maxL ret fr mc ms G (.ref a :: As) h Post) (F : zCV own index 0 y bytes maxL ret n) (ht : zTx G h a b nn ff) (hn : As.length = n) (hst : st0 = As.reverse ++ .ref a :: rest) (hW : (rest.map fun v => v.category).sum ≤ 8) (hR : fr + 1 ≤ R.frames ∧ 8 + (maxL + 11) + 40 * fr ≤ R.locals) (hf : cs + mc ≤ R.cells ∧ sl + ms ≤ R.slots) (hd : decode cc pc = .ok (.invokevirtual index, 3)) (kk : ∀ (r : α) (h2 : zH), Post r h2 → V p l e R s m args below meth c G nL Q h2 (cs + mc) (sl + ms) (pc + 3) lv ((emb r).toList ++ rest)) : V p l e R s m args below meth c G nL Q h cs sl pc lv st0 := by
  obtain ⟨C', T, N, f0, f1, f2, f3, f4, f5, f6, f7, f8⟩ := F
  cases f0
  intro H locs ls hP hS hL
  obtain ⟨hx, hb, hml, hown, hts, hK, hZ, hN, -⟩ := id C
  have pre : PreV s H RJ0 a (zPre G (.ref a :: As) h) As := ⟨zPre_blind, ht.recv C hP hS, fun U hU hWm => zPre_at C hP hS hU hWm⟩
  refine v_after (st0 := st0) (rest := rest) (a := (Value.ref a :: As).toArray) hN ?_ hS hL kk
  exact va_runV ⟨hx, hb, hml, hown, hts⟩ hM ⟨callB_of n hts (zTs f5) rfl rfl rfl (hts _ f4) (hts _ f1) ⟨f6, f7, f8⟩ hR, hts _ f2, hts _ f3⟩ pre rfl hn hL.1 hst (lv_room hW) hd hf
/-! super calls, inherited methods, Math, two-dimensional arrays -/
def zCSU (own : String) (index ci : Nat) (y : MethodName) (bytes : ByteArray) (maxL : Nat) (ret : Option FieldType) (n : Nat) : Prop := ∃ (C : String) (T : u_T) (N : Nat), zCl[ci]? = some (C, T, N) ∧ Cond.methodLink own index y ∈ zT ∧ Cond.sameMethod y.cls y.cls y.name y.desc ∈ zT ∧ Cond.superclass own y.cls ∈ zT ∧ Cond.instanceMethod y ∈ zT ∧ Cond.initialized y.cls ∈ zT ∧ Cond.code y bytes maxL ret ∈ zT ∧ y.name ≠ "<init>" ∧ (parseMethodDescriptor y.desc).map (fun d => d.parameters.length) = some n
theorem v_callSU {α : Type} {emb : α → Option Value} {y : MethodName} {bytes : ByteArray} {maxL n index fr mc ms b ci : Nat} {ret : Option FieldType} {As st0 rest fs : List Value} {Post : α → zH → Prop} (C : zOK p l e R s m args below meth c G cc nL own) (hM : zMet emb l y bytes maxL ret fr mc ms G (.ref b :: As) h Post) (F : zCSU own index ci y bytes maxL ret n) (ha : h b = some (.inr (ci, fs))) (hn : As.length = n) (hst : st0 = As.reverse ++ .ref b :: rest) (hW : (rest.map fun v => v.category).sum ≤ 8) (hR : fr + 1 ≤ R.frames ∧ 8 + (maxL + 11) + 40 * fr ≤ R.locals) (hf : cs + mc ≤ R.cells ∧ sl + ms ≤ R.slots) (hd : decode cc pc = .ok (.invokespecial index, 3)) (kk : ∀ (r : α) (h2 : zH), Post r h2 → V p l e R s m args below meth c G nL Q h2 (cs + mc) (sl + ms) (pc + 3) lv ((emb r).toList ++ rest)) : V p l e R s m args below meth c G nL Q h cs sl pc lv st0 := by
  obtain ⟨C', T, N, f0, f1, f2, f3, f4, f5, f6, f7, f8⟩ := F
  intro H locs ls hP hS hL
  obtain ⟨hx, hb, hml, hown, hts, hK, hZ, hN, -⟩ := id C
  have pre : PreV s H C' b (zPre G (.ref b :: As) h) As := ⟨zPre_blind, va_recv hK.1 (hP.one ha) f0 (q0 := 0) rfl, fun U hU hWm => zPre_at C hP hS hU hWm⟩
  refine v_after (st0 := st0) (rest := rest) (a := (Value.ref b :: As).toArray) hN ?_ hS hL kk
  refine va_runSU (hK.1.1 ci _ f0).2 ⟨hx, hb, hml, hown, hts⟩ hM (va_cwSU n hts (fun w hw => ?_) rfl rfl rfl ⟨f7, f8⟩ hR) pre rfl hn hL.1 hst (lv_room hW) hd hf
  unfold va_wsSU at hw
  rcases List.mem_append.mp hw with hw | hw
  · simp only [List.mem_cons, List.not_mem_nil, or_false] at hw
    rcases hw with rfl | rfl | rfl | rfl | rfl
    · exact zT_in _ f1
    · exact zT_in _ f2
    · exact zT_in _ f3
    · exact zT_in _ f4
    · exact zT_in _ f5
  · exact zTs f6 w hw
def zCU (own : String) (index ci : Nat) (owner : String) (x y : MethodName) (bytes : ByteArray) (maxL : Nat) (ret : Option FieldType) (n : Nat) : Prop := ∃ (C : String) (T : u_T) (N : Nat), zCl[ci]? = some (C, T, N) ∧ Cond.methodLink own index x ∈ zT ∧ Cond.sameMethod x.cls owner x.name x.desc ∈ zT ∧ Cond.selects C x y ∈ zT ∧ Cond.instanceMethod y ∈ zT ∧ Cond.initialized y.cls ∈ zT ∧ Cond.code y bytes maxL ret ∈ zT ∧ y = ⟨owner, x.name, x.desc⟩ ∧ owner ≠ "java/lang/invoke/MethodHandle" ∧ owner ≠ "java/lang/invoke/VarHandle" ∧ (parseMethodDescriptor x.desc).map (fun d => d.parameters.length) = some n
theorem v_callU {α : Type} {emb : α → Option Value} {x y : MethodName} {bytes : ByteArray} {maxL n index fr mc ms b ci : Nat} {owner : String} {ret : Option FieldType} {As st0 rest fs : List Value} {Post : α → zH → Prop} (C : zOK p l e R s m args below meth c G cc nL own) (hM : zMet emb l y bytes maxL ret fr mc ms G (.ref b :: As) h Post) (F : zCU own index ci owner x y bytes maxL ret n) (ha : h b = some (.inr (ci, fs))) (hn : As.length = n) (hst : st0 = As.reverse ++ .ref b :: rest) (hW : (rest.map fun v => v.category).sum ≤ 8) (hR : fr + 1 ≤ R.frames ∧ 8 + (maxL + 11) + 40 * fr ≤ R.locals) (hf : cs + mc ≤ R.cells ∧ sl + ms ≤ R.slots) (hd : decode cc pc = .ok (.invokevirtual index, 3)) (kk : ∀ (r : α) (h2 : zH), Post r h2 → V p l e R s m args below meth c G nL Q h2 (cs + mc) (sl + ms) (pc + 3) lv ((emb r).toList ++ rest)) : V p l e R s m args below meth c G nL Q h cs sl pc lv st0 := by
  obtain ⟨C', T, N, f0, f1, f2, f3, f4, f5, f6, f7, f8, f9, f10⟩ := F
  intro H locs ls hP hS hL
  obtain ⟨hx, hb, hml, hown, hts, hK, hZ, hN, -⟩ := id C
  have pre : PreV s H C' b (zPre G (.ref b :: As) h) As := ⟨zPre_blind, va_recv hK.1 (hP.one ha) f0 (q0 := 0) rfl, fun U hU hWm => zPre_at C hP hS hU hWm⟩
  refine v_after (st0 := st0) (rest := rest) (a := (Value.ref b :: As).toArray) hN ?_ hS hL kk
  refine va_runU ⟨hx, hb, hml, hown, hts⟩ hM (va_cwU n hts (fun w hw => ?_) rfl rfl rfl f7 ⟨f8, f9, f10⟩ hR) pre rfl hn hL.1 hst (lv_room hW) hd hf
  unfold va_wsU at hw
  rcases List.mem_append.mp hw with hw | hw
  · simp only [List.mem_cons, List.not_mem_nil, or_false] at hw
    rcases hw with rfl | rfl | rfl | rfl | rfl
    · exact zT_in _ f1
    · exact zT_in _ f2
    · exact zT_in _ f3
    · exact zT_in _ f4
    · exact zT_in _ f5
  · exact zTs f6 w hw
def zM_mmax (own : String) (index : Nat) : Prop := Cond.methodLink own index Lib.Math.max.name ∈ zT ∧ Cond.static Lib.Math.max.name ∈ zT ∧ Cond.initialized "java/lang/Math" ∈ zT ∧ Cond.code Lib.Math.max.name Lib.Math.max.code 2 (some .int) ∈ zT
theorem v_mmax (C : zOK p l e R s m args below meth c G cc nL own) {index : Nat} {x y : Int32} (F : zM_mmax own index) (hfr : 1 ≤ R.frames) (hlo : (st.map fun v => v.category).sum + 13 ≤ R.locals) (hc : cs ≤ R.cells) (hs : sl ≤ R.slots) (hd : decode cc pc = .ok (.invokestatic index, 3)) (kk : V p l e R s m args below meth c G nL Q h cs sl (pc + 3) lv (.int (if x < y then y else x) :: st)) : V p l e R s m args below meth c G nL Q h cs sl pc lv (.int y :: .int x :: st) := fun H locs ls hP hS hL => va_mmax C.1 C.2.1 (C.2.2.1.trans hL.1.symm) C.2.2.2.1 (C.2.2.2.2.1 _ F.1) (C.2.2.2.2.1 _ F.2.1) (C.2.2.2.2.1 _ F.2.2.1) (C.2.2.2.2.1 _ F.2.2.2) hfr hlo hc hs hd (kk H locs ls hP hS hL)
def zM_mmin (own : String) (index : Nat) : Prop := Cond.methodLink own index Lib.Math.min.name ∈ zT ∧ Cond.static Lib.Math.min.name ∈ zT ∧ Cond.initialized "java/lang/Math" ∈ zT ∧ Cond.code Lib.Math.min.name Lib.Math.min.code 2 (some .int) ∈ zT
theorem v_mmin (C : zOK p l e R s m args below meth c G cc nL own) {index : Nat} {x y : Int32} (F : zM_mmin own index) (hfr : 1 ≤ R.frames) (hlo : (st.map fun v => v.category).sum + 13 ≤ R.locals) (hc : cs ≤ R.cells) (hs : sl ≤ R.slots) (hd : decode cc pc = .ok (.invokestatic index, 3)) (kk : V p l e R s m args below meth c G nL Q h cs sl (pc + 3) lv (.int (if y < x then y else x) :: st)) : V p l e R s m args below meth c G nL Q h cs sl pc lv (.int y :: .int x :: st) := fun H locs ls hP hS hL => va_mmin C.1 C.2.1 (C.2.2.1.trans hL.1.symm) C.2.2.2.1 (C.2.2.2.2.1 _ F.1) (C.2.2.2.2.1 _ F.2.1) (C.2.2.2.2.1 _ F.2.2.1) (C.2.2.2.2.1 _ F.2.2.2) hfr hlo hc hs hd (kk H locs ls hP hS hL)
def zM_mmax_long (own : String) (index : Nat) : Prop := Cond.methodLink own index Lib.MathLoose.max_long.x ∈ zT ∧ Cond.static Lib.MathLoose.max_long.x ∈ zT ∧ Cond.initialized "java/lang/Math" ∈ zT ∧ Cond.code Lib.MathLoose.max_long.x Lib.MathLoose.max_long.code 4 (some .long) ∈ zT
theorem v_mmax_long (C : zOK p l e R s m args below meth c G cc nL own) {index : Nat} {x y : Int64} (F : zM_mmax_long own index) (hfr : 1 ≤ R.frames) (hlo : (st.map fun v => v.category).sum + 15 ≤ R.locals) (hc : cs ≤ R.cells) (hs : sl ≤ R.slots) (hd : decode cc pc = .ok (.invokestatic index, 3)) (kk : V p l e R s m args below meth c G nL Q h cs sl (pc + 3) lv (.long (if y < x then x else y) :: st)) : V p l e R s m args below meth c G nL Q h cs sl pc lv (.long y :: .long x :: st) := fun H locs ls hP hS hL => va_mmax_long C.1 C.2.1 (C.2.2.1.trans hL.1.symm) C.2.2.2.1 (C.2.2.2.2.1 _ F.1) (C.2.2.2.2.1 _ F.2.1) (C.2.2.2.2.1 _ F.2.2.1) (C.2.2.2.2.1 _ F.2.2.2) hfr hlo hc hs hd (kk H locs ls hP hS hL)
def zM_mmin_long (own : String) (index : Nat) : Prop := Cond.methodLink own index Lib.MathLoose.min_long.x ∈ zT ∧ Cond.static Lib.MathLoose.min_long.x ∈ zT ∧ Cond.initialized "java/lang/Math" ∈ zT ∧ Cond.code Lib.MathLoose.min_long.x Lib.MathLoose.min_long.code 4 (some .long) ∈ zT
theorem v_mmin_long (C : zOK p l e R s m args below meth c G cc nL own) {index : Nat} {x y : Int64} (F : zM_mmin_long own index) (hfr : 1 ≤ R.frames) (hlo : (st.map fun v => v.category).sum + 15 ≤ R.locals) (hc : cs ≤ R.cells) (hs : sl ≤ R.slots) (hd : decode cc pc = .ok (.invokestatic index, 3)) (kk : V p l e R s m args below meth c G nL Q h cs sl (pc + 3) lv (.long (if y < x then y else x) :: st)) : V p l e R s m args below meth c G nL Q h cs sl pc lv (.long y :: .long x :: st) := fun H locs ls hP hS hL => va_mmin_long C.1 C.2.1 (C.2.2.1.trans hL.1.symm) C.2.2.2.1 (C.2.2.2.2.1 _ F.1) (C.2.2.2.2.1 _ F.2.1) (C.2.2.2.2.1 _ F.2.2.1) (C.2.2.2.2.1 _ F.2.2.2) hfr hlo hc hs hd (kk H locs ls hP hS hL)
def zLL (G : zG) (h : zH) (q : Nat) (r : Nat → Nat) (n k : Nat) : zH := fun a => if a = q then some (.inl (gc G 7, n, .inr (.inr (.inr (.inr (fun i => if i < n then some (r i) else none)))))) else if a ∈ (List.range n).map r then some (.inl (gc G 1, k, .inr (.inl (fun _ => 0)))) else h a
theorem v_mna (C : zOK p l e R s m args below meth c G cc nL own) {index : Nat} {n k : Int32} {N K : Nat} (hw : Cond.classLink own index "[[J" ∈ zT) (hw2 : Cond.arrayOver (.array .long) ∈ zT) (hw3 : Cond.arrayClass .long ∈ zT) (hn : ¬ n < 0) (hk : ¬ k < 0) (hN : n.toNatClampNeg = N) (hM : k.toNatClampNeg = K) (hb1 : N * 4 ≤ 536870912) (hb2 : K * 8 ≤ 536870912) (hc : cs + (1 + N) ≤ R.cells) (hs : sl + (N + N * K) ≤ R.slots) (hd : decode cc pc = .ok (.multianewarray index 2, 4)) (kk : ∀ (q : Nat) (r : Nat → Nat), gN G ≤ q → h q = none → (∀ i, i < N → gN G ≤ r i ∧ h (r i) = none ∧ r i ≠ q) → (∀ i j, i < N → j < N → r i = r j → i = j) → V p l e R s m args below meth c G nL Q (zLL G h q r N K) (cs + 1 + N) (sl + N + N * K) (pc + 4) lv (.ref q :: st)) : V p l e R s m args below meth c G nL Q h cs sl pc lv (.int k :: .int n :: st) := by
  obtain ⟨hx, hb, -, hown, hts, hK, -, hN0, -⟩ := C
  intro H locs ls hP hS hL
  obtain ⟨n0, L, f, p0, d0, k0⟩ := id hP
  have e1 := (hK.1.2 1 _ rfl).2
  refine va_mna (X := []) (L := L) (f := f) (cy := gc G 1) (ty := .long) (z := (K, .inr (.inl (fun _ => 0)))) hx hb hown (hts _ hw) (hts _ hw2) (hts _ hw3) e1 hK.1 p0 d0 hS (fun q hq => Nat.le_trans hN0 hq) hn hk hN hM hb1 hb2 (by have : K * 8 ≤ 536870912 := hb2; omega) rfl rfl hc hs (fun c => arrV_new c K _) hd (fun q r cA H1 hinj hrL K1 p1 d1 S1 => ?_)
  have e2 := (K1.2 (zTy (gc G)).length (cA, .array .long) (by rw [List.getElem?_append_right (Nat.le_refl _), Nat.sub_self]; rfl)).2
  have e3 := (hK.1.2 7 _ rfl).2
  cases Option.some.inj (e2.symm.trans e3)
  have hrow : ∀ a, a ∈ (List.range N).map r → ∃ i, i < N ∧ r i = a := fun a ha => by
    obtain ⟨i, hi, rfl⟩ := List.mem_map.mp ha
    exact ⟨i, List.mem_range.mp hi, rfl⟩
  generalize ho : (Sum.inl (gc G 7, N, .inr (.inr (.inr (.inr (fun i => if i < N then some (r i) else none))))) : va_E) = eo at p1 d1
  have hl1 : ([] ++ [(q, eo)] : va_W).length = 1 := rfl
  have hq0 : (([] ++ [(q, eo)]) ++ va_pl (L ++ (List.range N).map r) (vr_up f ((List.range N).map r) (.inl (gc G 1, K, .inr (.inl (fun _ => 0))))))[0]? = some (q, eo) := rfl
  have hqN : q ∉ L ++ (List.range N).map r := fun hq => by
    obtain ⟨i, hi⟩ := va_pl_get (X := []) (f := vr_up f ((List.range N).map r) (.inl (gc G 1, K, .inr (.inl (fun _ => 0))))) hq
    have h2 : (([] ++ [(q, eo)]) ++ va_pl (L ++ (List.range N).map r) (vr_up f ((List.range N).map r) (.inl (gc G 1, K, .inr (.inl (fun _ => 0))))))[i + 1]? = some (q, vr_up f ((List.range N).map r) (.inl (gc G 1, K, .inr (.inl (fun _ => 0)))) q) := by
      rw [List.getElem?_append_right (by rw [hl1]; omega)]
      exact hi
    have := d1.1 0 (i + 1) _ _ hq0 h2 rfl
    omega
  have hqA : gN G ≤ q := d1.2 0 _ hq0
  have hnoneL : ∀ a, a ∉ L → h a = none := fun a ha => by
    cases hh : h a with
    | none => rfl
    | some x => exact absurd (k0 a x hh).1 ha
  have hrA : ∀ a, a ∈ (List.range N).map r → gN G ≤ a := fun a ha => by
    obtain ⟨i, hi⟩ := va_pl_get (X := [] ++ [(q, eo)]) (f := vr_up f ((List.range N).map r) (.inl (gc G 1, K, .inr (.inl (fun _ => 0))))) (List.mem_append_right L ha)
    exact d1.2 i _ hi
  have hmem : ∀ i, i < N → r i ∈ (List.range N).map r := fun i hi => List.mem_map.mpr ⟨i, List.mem_range.mpr hi, rfl⟩
  refine kk q r hqA (hnoneL q (fun hq => hqN (List.mem_append_left _ hq))) (fun i hi => ⟨hrA _ (hmem i hi), hnoneL _ (hrL i hi), fun e => hqN (by rw [← e]; exact List.mem_append_right _ (hmem i hi))⟩) hinj H1 locs ls ?_ S1 hL
  refine ⟨Nat.le_trans hN0 S1.1, q :: (L ++ (List.range N).map r), va_up (vr_up f ((List.range N).map r) (.inl (gc G 1, K, .inr (.inl (fun _ => 0))))) q eo, ?_, ?_, ?_⟩
  · have es : va_pl (q :: (L ++ (List.range N).map r)) (va_up (vr_up f ((List.range N).map r) (.inl (gc G 1, K, .inr (.inl (fun _ => 0))))) q eo) = ([] ++ [(q, eo)]) ++ va_pl (L ++ (List.range N).map r) (vr_up f ((List.range N).map r) (.inl (gc G 1, K, .inr (.inl (fun _ => 0))))) := by
      show (q, va_up _ q eo q) :: _ = (q, eo) :: _
      rw [va_up_self]
      congr 1
      exact List.map_congr_left (fun b hb => by rw [va_up_ne _ _ (show b ≠ q from fun e => hqN (by rw [← e]; exact hb))])
    rw [es]; exact p1
  · have es : va_pl (q :: (L ++ (List.range N).map r)) (va_up (vr_up f ((List.range N).map r) (.inl (gc G 1, K, .inr (.inl (fun _ => 0))))) q eo) = ([] ++ [(q, eo)]) ++ va_pl (L ++ (List.range N).map r) (vr_up f ((List.range N).map r) (.inl (gc G 1, K, .inr (.inl (fun _ => 0))))) := by
      show (q, va_up _ q eo q) :: _ = (q, eo) :: _
      rw [va_up_self]
      congr 1
      exact List.map_congr_left (fun b hb => by rw [va_up_ne _ _ (show b ≠ q from fun e => hqN (by rw [← e]; exact hb))])
    rw [es]; exact d1
  · intro a x hax
    unfold zLL at hax
    by_cases h1 : a = q
    · subst h1
      rw [if_pos rfl, ho] at hax
      cases hax
      exact ⟨List.mem_cons_self, va_up_self _ _ _⟩
    · rw [if_neg h1] at hax
      rw [va_up_ne _ _ h1]
      by_cases h2 : a ∈ (List.range N).map r
      · rw [if_pos h2] at hax
        cases hax
        exact ⟨List.mem_cons_of_mem _ (List.mem_append_right _ h2), vr_up_in h2⟩
      · rw [if_neg h2] at hax
        exact ⟨List.mem_cons_of_mem _ (List.mem_append_left _ (k0 a x hax).1), by rw [vr_up_ne h2]; exact (k0 a x hax).2⟩
end ZR

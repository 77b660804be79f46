-- ===== PART A: goes FIRST, ahead of the names: the tables' words, and 'selects' of the private methods out of them =====
/-- a private method of a class that the tables say can be made, by its rows of tables_1 -/
def lw_okq (q : MethodName × Nat) : Prop := (q.1.cls ≠ "java/lang/invoke/MethodHandle" ∧ q.1.cls ≠ "java/lang/invoke/VarHandle") ∧ Cond.instantiable q.1.cls q.2 ∈ tables_1 ∧ Cond.privateMethod q.1 ∈ tables_1 ∧ Cond.instanceMethod q.1 ∈ tables_1
theorem lw_p0 : lw_okq (⟨"Covenanter", "stateIn", "(LCovenanter$Ratio;I)I"⟩, 5) := ⟨⟨by decide +kernel, by decide +kernel⟩, List.mem_of_getElem? (i := 30) (by decide +kernel), List.mem_of_getElem? (i := 118) (by decide +kernel), List.mem_of_getElem? (i := 119) (by decide +kernel)⟩
theorem lw_p1 : lw_okq (⟨"Covenanter", "isBelowWake", "(LCovenanter$Ratio;I)Z"⟩, 5) := ⟨⟨by decide +kernel, by decide +kernel⟩, List.mem_of_getElem? (i := 30) (by decide +kernel), List.mem_of_getElem? (i := 125) (by decide +kernel), List.mem_of_getElem? (i := 126) (by decide +kernel)⟩
theorem lw_p2 : lw_okq (⟨"java/lang/Throwable", "fillInStackTrace", "(I)Ljava/lang/Throwable;"⟩, 6) := ⟨⟨by decide +kernel, by decide +kernel⟩, List.mem_of_getElem? (i := 186) (by decide +kernel), List.mem_of_getElem? (i := 184) (by decide +kernel), List.mem_of_getElem? (i := 185) (by decide +kernel)⟩
theorem lw_p3 : lw_okq (⟨"Covenanter", "settleTerms", "()V"⟩, 5) := ⟨⟨by decide +kernel, by decide +kernel⟩, List.mem_of_getElem? (i := 30) (by decide +kernel), List.mem_of_getElem? (i := 237) (by decide +kernel), List.mem_of_getElem? (i := 238) (by decide +kernel)⟩
theorem lw_p4 : lw_okq (⟨"Covenanter", "push", "(LCovenanter$Formula;)I"⟩, 5) := ⟨⟨by decide +kernel, by decide +kernel⟩, List.mem_of_getElem? (i := 30) (by decide +kernel), List.mem_of_getElem? (i := 582) (by decide +kernel), List.mem_of_getElem? (i := 583) (by decide +kernel)⟩
theorem lw_p5 : lw_okq (⟨"java/util/ArrayList", "add", "(Ljava/lang/Object;[Ljava/lang/Object;I)V"⟩, 3) := ⟨⟨by decide +kernel, by decide +kernel⟩, List.mem_of_getElem? (i := 40) (by decide +kernel), List.mem_of_getElem? (i := 590) (by decide +kernel), List.mem_of_getElem? (i := 591) (by decide +kernel)⟩
theorem lw_p6 : lw_okq (⟨"java/util/ArrayList", "grow", "()[Ljava/lang/Object;"⟩, 3) := ⟨⟨by decide +kernel, by decide +kernel⟩, List.mem_of_getElem? (i := 40) (by decide +kernel), List.mem_of_getElem? (i := 594) (by decide +kernel), List.mem_of_getElem? (i := 595) (by decide +kernel)⟩
theorem lw_p7 : lw_okq (⟨"java/util/ArrayList", "grow", "(I)[Ljava/lang/Object;"⟩, 3) := ⟨⟨by decide +kernel, by decide +kernel⟩, List.mem_of_getElem? (i := 40) (by decide +kernel), List.mem_of_getElem? (i := 598) (by decide +kernel), List.mem_of_getElem? (i := 599) (by decide +kernel)⟩
theorem lw_p8 : lw_okq (⟨"Covenanter", "isTerm", "(I)Z"⟩, 5) := ⟨⟨by decide +kernel, by decide +kernel⟩, List.mem_of_getElem? (i := 30) (by decide +kernel), List.mem_of_getElem? (i := 649) (by decide +kernel), List.mem_of_getElem? (i := 650) (by decide +kernel)⟩
theorem lw_p9 : lw_okq (⟨"java/util/ArrayList", "fastRemove", "([Ljava/lang/Object;I)V"⟩, 3) := ⟨⟨by decide +kernel, by decide +kernel⟩, List.mem_of_getElem? (i := 40) (by decide +kernel), List.mem_of_getElem? (i := 672) (by decide +kernel), List.mem_of_getElem? (i := 673) (by decide +kernel)⟩
theorem lw_p10 : lw_okq (⟨"Covenanter", "isTest", "(I)Z"⟩, 5) := ⟨⟨by decide +kernel, by decide +kernel⟩, List.mem_of_getElem? (i := 30) (by decide +kernel), List.mem_of_getElem? (i := 890) (by decide +kernel), List.mem_of_getElem? (i := 891) (by decide +kernel)⟩
theorem lw_p11 : lw_okq (⟨"Covenanter", "isBasket", "(I)Z"⟩, 5) := ⟨⟨by decide +kernel, by decide +kernel⟩, List.mem_of_getElem? (i := 30) (by decide +kernel), List.mem_of_getElem? (i := 980) (by decide +kernel), List.mem_of_getElem? (i := 981) (by decide +kernel)⟩
theorem lw_p12 : lw_okq (⟨"CovenanterModel", "pushes", "(III)I"⟩, 30) := ⟨⟨by decide +kernel, by decide +kernel⟩, List.mem_of_getElem? (i := 1005) (by decide +kernel), List.mem_of_getElem? (i := 1126) (by decide +kernel), List.mem_of_getElem? (i := 1127) (by decide +kernel)⟩
theorem lw_p13 : lw_okq (⟨"CovenanterModel", "adds", "(III)V"⟩, 30) := ⟨⟨by decide +kernel, by decide +kernel⟩, List.mem_of_getElem? (i := 1005) (by decide +kernel), List.mem_of_getElem? (i := 1130) (by decide +kernel), List.mem_of_getElem? (i := 1131) (by decide +kernel)⟩
theorem lw_p14 : lw_okq (⟨"CovenanterModel", "isTerm", "(I)Z"⟩, 30) := ⟨⟨by decide +kernel, by decide +kernel⟩, List.mem_of_getElem? (i := 1005) (by decide +kernel), List.mem_of_getElem? (i := 1142) (by decide +kernel), List.mem_of_getElem? (i := 1143) (by decide +kernel)⟩
theorem lw_p15 : lw_okq (⟨"CovenanterModel", "canGrow", "()Z"⟩, 30) := ⟨⟨by decide +kernel, by decide +kernel⟩, List.mem_of_getElem? (i := 1005) (by decide +kernel), List.mem_of_getElem? (i := 1154) (by decide +kernel), List.mem_of_getElem? (i := 1155) (by decide +kernel)⟩
def lw_privs_1 : List (MethodName × Nat) := [(⟨"Covenanter", "stateIn", "(LCovenanter$Ratio;I)I"⟩, 5), (⟨"Covenanter", "isBelowWake", "(LCovenanter$Ratio;I)Z"⟩, 5), (⟨"java/lang/Throwable", "fillInStackTrace", "(I)Ljava/lang/Throwable;"⟩, 6), (⟨"Covenanter", "settleTerms", "()V"⟩, 5), (⟨"Covenanter", "push", "(LCovenanter$Formula;)I"⟩, 5), (⟨"java/util/ArrayList", "add", "(Ljava/lang/Object;[Ljava/lang/Object;I)V"⟩, 3), (⟨"java/util/ArrayList", "grow", "()[Ljava/lang/Object;"⟩, 3), (⟨"java/util/ArrayList", "grow", "(I)[Ljava/lang/Object;"⟩, 3), (⟨"Covenanter", "isTerm", "(I)Z"⟩, 5), (⟨"java/util/ArrayList", "fastRemove", "([Ljava/lang/Object;I)V"⟩, 3), (⟨"Covenanter", "isTest", "(I)Z"⟩, 5), (⟨"Covenanter", "isBasket", "(I)Z"⟩, 5), (⟨"CovenanterModel", "pushes", "(III)I"⟩, 30), (⟨"CovenanterModel", "adds", "(III)V"⟩, 30), (⟨"CovenanterModel", "isTerm", "(I)Z"⟩, 30), (⟨"CovenanterModel", "canGrow", "()Z"⟩, 30)]
theorem lw_r1 : ∀ q ∈ lw_privs_1, lw_okq q := List.forall_mem_cons.mpr ⟨lw_p0, List.forall_mem_cons.mpr ⟨lw_p1, List.forall_mem_cons.mpr ⟨lw_p2, List.forall_mem_cons.mpr ⟨lw_p3, List.forall_mem_cons.mpr ⟨lw_p4, List.forall_mem_cons.mpr ⟨lw_p5, List.forall_mem_cons.mpr ⟨lw_p6, List.forall_mem_cons.mpr ⟨lw_p7, List.forall_mem_cons.mpr ⟨lw_p8, List.forall_mem_cons.mpr ⟨lw_p9, List.forall_mem_cons.mpr ⟨lw_p10, List.forall_mem_cons.mpr ⟨lw_p11, List.forall_mem_cons.mpr ⟨lw_p12, List.forall_mem_cons.mpr ⟨lw_p13, List.forall_mem_cons.mpr ⟨lw_p14, List.forall_mem_cons.mpr ⟨lw_p15, fun _ h => absurd h List.not_mem_nil⟩⟩⟩⟩⟩⟩⟩⟩⟩⟩⟩⟩⟩⟩⟩⟩
theorem lw_p16 : lw_okq (⟨"CovenanterModel", "grows", "(II)I"⟩, 30) := ⟨⟨by decide +kernel, by decide +kernel⟩, List.mem_of_getElem? (i := 1005) (by decide +kernel), List.mem_of_getElem? (i := 1158) (by decide +kernel), List.mem_of_getElem? (i := 1159) (by decide +kernel)⟩
theorem lw_p17 : lw_okq (⟨"CovenanterModel", "defines", "(II)V"⟩, 30) := ⟨⟨by decide +kernel, by decide +kernel⟩, List.mem_of_getElem? (i := 1005) (by decide +kernel), List.mem_of_getElem? (i := 1174) (by decide +kernel), List.mem_of_getElem? (i := 1175) (by decide +kernel)⟩
theorem lw_p18 : lw_okq (⟨"CovenanterModel", "greatestNamed", "()I"⟩, 30) := ⟨⟨by decide +kernel, by decide +kernel⟩, List.mem_of_getElem? (i := 1005) (by decide +kernel), List.mem_of_getElem? (i := 1182) (by decide +kernel), List.mem_of_getElem? (i := 1183) (by decide +kernel)⟩
theorem lw_p19 : lw_okq (⟨"CovenanterModel", "tells", "()V"⟩, 30) := ⟨⟨by decide +kernel, by decide +kernel⟩, List.mem_of_getElem? (i := 1005) (by decide +kernel), List.mem_of_getElem? (i := 1198) (by decide +kernel), List.mem_of_getElem? (i := 1199) (by decide +kernel)⟩
theorem lw_p20 : lw_okq (⟨"CovenanterModel", "works", "(I)V"⟩, 30) := ⟨⟨by decide +kernel, by decide +kernel⟩, List.mem_of_getElem? (i := 1005) (by decide +kernel), List.mem_of_getElem? (i := 1202) (by decide +kernel), List.mem_of_getElem? (i := 1203) (by decide +kernel)⟩
theorem lw_p21 : lw_okq (⟨"CovenanterModel", "leaf", "(III)J"⟩, 30) := ⟨⟨by decide +kernel, by decide +kernel⟩, List.mem_of_getElem? (i := 1005) (by decide +kernel), List.mem_of_getElem? (i := 1206) (by decide +kernel), List.mem_of_getElem? (i := 1207) (by decide +kernel)⟩
theorem lw_p22 : lw_okq (⟨"CovenanterModel", "holding", "(II)I"⟩, 30) := ⟨⟨by decide +kernel, by decide +kernel⟩, List.mem_of_getElem? (i := 1005) (by decide +kernel), List.mem_of_getElem? (i := 1220) (by decide +kernel), List.mem_of_getElem? (i := 1221) (by decide +kernel)⟩
theorem lw_p23 : lw_okq (⟨"CovenanterModel", "writes", "(I)V"⟩, 30) := ⟨⟨by decide +kernel, by decide +kernel⟩, List.mem_of_getElem? (i := 1005) (by decide +kernel), List.mem_of_getElem? (i := 1224) (by decide +kernel), List.mem_of_getElem? (i := 1225) (by decide +kernel)⟩
theorem lw_p24 : lw_okq (⟨"CovenanterModel", "inserts", "(IC)V"⟩, 30) := ⟨⟨by decide +kernel, by decide +kernel⟩, List.mem_of_getElem? (i := 1005) (by decide +kernel), List.mem_of_getElem? (i := 1228) (by decide +kernel), List.mem_of_getElem? (i := 1229) (by decide +kernel)⟩
theorem lw_p25 : lw_okq (⟨"CovenanterModel", "insertsNumber", "(II)I"⟩, 30) := ⟨⟨by decide +kernel, by decide +kernel⟩, List.mem_of_getElem? (i := 1005) (by decide +kernel), List.mem_of_getElem? (i := 1232) (by decide +kernel), List.mem_of_getElem? (i := 1233) (by decide +kernel)⟩
theorem lw_p26 : lw_okq (⟨"CovenanterModel", "joinsText", "(III)V"⟩, 30) := ⟨⟨by decide +kernel, by decide +kernel⟩, List.mem_of_getElem? (i := 1005) (by decide +kernel), List.mem_of_getElem? (i := 1236) (by decide +kernel), List.mem_of_getElem? (i := 1237) (by decide +kernel)⟩
theorem lw_p27 : lw_okq (⟨"CovenanterModel", "insertsWord", "(ICCCCC)I"⟩, 30) := ⟨⟨by decide +kernel, by decide +kernel⟩, List.mem_of_getElem? (i := 1005) (by decide +kernel), List.mem_of_getElem? (i := 1240) (by decide +kernel), List.mem_of_getElem? (i := 1241) (by decide +kernel)⟩
theorem lw_p28 : lw_okq (⟨"CovenanterModel", "isTest", "(I)Z"⟩, 30) := ⟨⟨by decide +kernel, by decide +kernel⟩, List.mem_of_getElem? (i := 1005) (by decide +kernel), List.mem_of_getElem? (i := 1256) (by decide +kernel), List.mem_of_getElem? (i := 1257) (by decide +kernel)⟩
theorem lw_p29 : lw_okq (⟨"CovenanterModel", "curesAround", "(II)I"⟩, 30) := ⟨⟨by decide +kernel, by decide +kernel⟩, List.mem_of_getElem? (i := 1005) (by decide +kernel), List.mem_of_getElem? (i := 1268) (by decide +kernel), List.mem_of_getElem? (i := 1269) (by decide +kernel)⟩
theorem lw_p30 : lw_okq (⟨"CovenanterModel", "stateOf", "(II)I"⟩, 30) := ⟨⟨by decide +kernel, by decide +kernel⟩, List.mem_of_getElem? (i := 1005) (by decide +kernel), List.mem_of_getElem? (i := 1280) (by decide +kernel), List.mem_of_getElem? (i := 1281) (by decide +kernel)⟩
theorem lw_p31 : lw_okq (⟨"CovenanterModel", "limitOf", "(II)I"⟩, 30) := ⟨⟨by decide +kernel, by decide +kernel⟩, List.mem_of_getElem? (i := 1005) (by decide +kernel), List.mem_of_getElem? (i := 1284) (by decide +kernel), List.mem_of_getElem? (i := 1285) (by decide +kernel)⟩
def lw_privs_2 : List (MethodName × Nat) := [(⟨"CovenanterModel", "grows", "(II)I"⟩, 30), (⟨"CovenanterModel", "defines", "(II)V"⟩, 30), (⟨"CovenanterModel", "greatestNamed", "()I"⟩, 30), (⟨"CovenanterModel", "tells", "()V"⟩, 30), (⟨"CovenanterModel", "works", "(I)V"⟩, 30), (⟨"CovenanterModel", "leaf", "(III)J"⟩, 30), (⟨"CovenanterModel", "holding", "(II)I"⟩, 30), (⟨"CovenanterModel", "writes", "(I)V"⟩, 30), (⟨"CovenanterModel", "inserts", "(IC)V"⟩, 30), (⟨"CovenanterModel", "insertsNumber", "(II)I"⟩, 30), (⟨"CovenanterModel", "joinsText", "(III)V"⟩, 30), (⟨"CovenanterModel", "insertsWord", "(ICCCCC)I"⟩, 30), (⟨"CovenanterModel", "isTest", "(I)Z"⟩, 30), (⟨"CovenanterModel", "curesAround", "(II)I"⟩, 30), (⟨"CovenanterModel", "stateOf", "(II)I"⟩, 30), (⟨"CovenanterModel", "limitOf", "(II)I"⟩, 30)]
theorem lw_r2 : ∀ q ∈ lw_privs_2, lw_okq q := List.forall_mem_cons.mpr ⟨lw_p16, List.forall_mem_cons.mpr ⟨lw_p17, List.forall_mem_cons.mpr ⟨lw_p18, List.forall_mem_cons.mpr ⟨lw_p19, List.forall_mem_cons.mpr ⟨lw_p20, List.forall_mem_cons.mpr ⟨lw_p21, List.forall_mem_cons.mpr ⟨lw_p22, List.forall_mem_cons.mpr ⟨lw_p23, List.forall_mem_cons.mpr ⟨lw_p24, List.forall_mem_cons.mpr ⟨lw_p25, List.forall_mem_cons.mpr ⟨lw_p26, List.forall_mem_cons.mpr ⟨lw_p27, List.forall_mem_cons.mpr ⟨lw_p28, List.forall_mem_cons.mpr ⟨lw_p29, List.forall_mem_cons.mpr ⟨lw_p30, List.forall_mem_cons.mpr ⟨lw_p31, fun _ h => absurd h List.not_mem_nil⟩⟩⟩⟩⟩⟩⟩⟩⟩⟩⟩⟩⟩⟩⟩⟩
theorem lw_p32 : lw_okq (⟨"CovenanterModel", "isKept", "(IIJ)Z"⟩, 30) := ⟨⟨by decide +kernel, by decide +kernel⟩, List.mem_of_getElem? (i := 1005) (by decide +kernel), List.mem_of_getElem? (i := 1288) (by decide +kernel), List.mem_of_getElem? (i := 1289) (by decide +kernel)⟩
theorem lw_p33 : lw_okq (⟨"CovenanterModel", "isBasket", "(I)Z"⟩, 30) := ⟨⟨by decide +kernel, by decide +kernel⟩, List.mem_of_getElem? (i := 1005) (by decide +kernel), List.mem_of_getElem? (i := 1309) (by decide +kernel), List.mem_of_getElem? (i := 1310) (by decide +kernel)⟩
theorem lw_p34 : lw_okq (⟨"CovenanterModel", "sizeOf", "(II)J"⟩, 30) := ⟨⟨by decide +kernel, by decide +kernel⟩, List.mem_of_getElem? (i := 1005) (by decide +kernel), List.mem_of_getElem? (i := 1313) (by decide +kernel), List.mem_of_getElem? (i := 1314) (by decide +kernel)⟩
def lw_privs_3 : List (MethodName × Nat) := [(⟨"CovenanterModel", "isKept", "(IIJ)Z"⟩, 30), (⟨"CovenanterModel", "isBasket", "(I)Z"⟩, 30), (⟨"CovenanterModel", "sizeOf", "(II)J"⟩, 30)]
theorem lw_r3 : ∀ q ∈ lw_privs_3, lw_okq q := List.forall_mem_cons.mpr ⟨lw_p32, List.forall_mem_cons.mpr ⟨lw_p33, List.forall_mem_cons.mpr ⟨lw_p34, fun _ h => absurd h List.not_mem_nil⟩⟩⟩
def lw_privs : List (MethodName × Nat) := lw_privs_1 ++ (lw_privs_2 ++ (lw_privs_3))
def lw_tbl : List Cond := k2_sels lw_privs ++ tables_1
theorem lw_privs_ok : ∀ q ∈ lw_privs, lw_okq q := by
  show ∀ q ∈ lw_privs_1 ++ (lw_privs_2 ++ (lw_privs_3)), lw_okq q
  exact List.forall_mem_append.mpr ⟨lw_r1, List.forall_mem_append.mpr ⟨lw_r2, lw_r3⟩⟩
-- ===== end of PART A; then your names; then what follows =====
def RX0 : String := "Covenanter$Basket"
def TX0 : u_T := fun k => match k with
  | 0 => ("Covenanter$Basket", "fixed", "I", true)
  | 1 => ("Covenanter$Basket", "term", "LCovenanter$Term;", true)
  | 2 => ("Covenanter$Basket", "percents", "I", true)
  | _ => ("Covenanter$Basket", "used", "J", false)
def tyX0 : Nat → FieldType := fun k => match k with
  | 0 => .int
  | 1 => .object "Covenanter$Term"
  | 2 => .int
  | _ => .long
theorem nmX0 : ∀ a, a < 4 → ∀ b, b < 4 → a ≠ b → (TX0 a).2.1 ≠ (TX0 b).2.1 := by decide +kernel
theorem tyX0_ok : ∀ k, k < 4 → parseFieldDescriptor (TX0 k).2.2.1 = some (tyX0 k) := by decide +kernel
abbrev cX0_init : ByteArray := prog_2_method_1_code
def yX0_init : MethodName := ⟨RX0, "<init>", "(ILCovenanter$Term;I)V"⟩
def RX1 : String := "Covenanter$Formula"
def TX1 : u_T := fun k => match k with
  | 0 => ("Covenanter$Formula", "kind", "I", true)
  | 1 => ("Covenanter$Formula", "percents", "I", true)
  | 2 => ("Covenanter$Formula", "first", "LCovenanter$Formula;", true)
  | 3 => ("Covenanter$Formula", "second", "LCovenanter$Formula;", true)
  | 4 => ("Covenanter$Formula", "level", "I", true)
  | 5 => ("Covenanter$Formula", "greatestTerm", "I", true)
  | 6 => ("Covenanter$Formula", "text", "Ljava/lang/String;", true)
  | _ => ("Covenanter$Formula", "values", "[J", true)
def tyX1 : Nat → FieldType := fun k => match k with
  | 0 => .int
  | 1 => .int
  | 2 => .object "Covenanter$Formula"
  | 3 => .object "Covenanter$Formula"
  | 4 => .int
  | 5 => .int
  | 6 => .object "java/lang/String"
  | _ => .array .long
theorem nmX1 : ∀ a, a < 8 → ∀ b, b < 8 → a ≠ b → (TX1 a).2.1 ≠ (TX1 b).2.1 := by decide +kernel
theorem tyX1_ok : ∀ k, k < 8 → parseFieldDescriptor (TX1 k).2.2.1 = some (tyX1 k) := by decide +kernel
abbrev cX1_init : ByteArray := prog_3_method_1_code
def yX1_init : MethodName := ⟨RX1, "<init>", "(IILjava/lang/String;[J)V"⟩
abbrev cX1_init_ : ByteArray := prog_3_method_2_code
def yX1_init_ : MethodName := ⟨RX1, "<init>", "(IILCovenanter$Formula;LCovenanter$Formula;Ljava/lang/String;)V"⟩
abbrev cX1_levelOf : ByteArray := prog_3_method_3_code
def yX1_levelOf : MethodName := ⟨RX1, "levelOf", "(LCovenanter$Formula;)I"⟩
abbrev cX1_greatestTermOf : ByteArray := prog_3_method_4_code
def yX1_greatestTermOf : MethodName := ⟨RX1, "greatestTermOf", "(LCovenanter$Formula;)I"⟩
def RX2 : String := "Covenanter$Ratio"
def TX2 : u_T := fun k => match k with
  | 0 => ("Covenanter$Ratio", "top", "LCovenanter$Term;", true)
  | 1 => ("Covenanter$Ratio", "bottom", "LCovenanter$Term;", true)
  | 2 => ("Covenanter$Ratio", "limits", "[I", true)
  | 3 => ("Covenanter$Ratio", "limitCount", "I", false)
  | 4 => ("Covenanter$Ratio", "wakeAccount", "I", false)
  | 5 => ("Covenanter$Ratio", "wakeLeast", "I", false)
  | 6 => ("Covenanter$Ratio", "cures", "[I", true)
  | 7 => ("Covenanter$Ratio", "cureCount", "I", false)
  | _ => ("Covenanter$Ratio", "waived", "[Z", true)
def tyX2 : Nat → FieldType := fun k => match k with
  | 0 => .object "Covenanter$Term"
  | 1 => .object "Covenanter$Term"
  | 2 => .array .int
  | 3 => .int
  | 4 => .int
  | 5 => .int
  | 6 => .array .int
  | 7 => .int
  | _ => .array .boolean
theorem nmX2 : ∀ a, a < 9 → ∀ b, b < 9 → a ≠ b → (TX2 a).2.1 ≠ (TX2 b).2.1 := by decide +kernel
theorem tyX2_ok : ∀ k, k < 9 → parseFieldDescriptor (TX2 k).2.2.1 = some (tyX2 k) := by decide +kernel
abbrev cX2_init : ByteArray := prog_4_method_1_code
def yX2_init : MethodName := ⟨RX2, "<init>", "(LCovenanter$Term;LCovenanter$Term;)V"⟩
def RX3 : String := "Covenanter$Term"
def TX3 : u_T := fun k => match k with
  | 0 => ("Covenanter$Term", "level", "I", true)
  | 1 => ("Covenanter$Term", "definitions", "[LCovenanter$Formula;", true)
  | 2 => ("Covenanter$Term", "definitionCount", "I", false)
  | _ => ("Covenanter$Term", "values", "[J", true)
def tyX3 : Nat → FieldType := fun k => match k with
  | 0 => .int
  | 1 => .array (.object "Covenanter$Formula")
  | 2 => .int
  | _ => .array .long
theorem nmX3 : ∀ a, a < 4 → ∀ b, b < 4 → a ≠ b → (TX3 a).2.1 ≠ (TX3 b).2.1 := by decide +kernel
theorem tyX3_ok : ∀ k, k < 4 → parseFieldDescriptor (TX3 k).2.2.1 = some (tyX3 k) := by decide +kernel
abbrev cX3_init : ByteArray := prog_5_method_1_code
def yX3_init : MethodName := ⟨RX3, "<init>", "(LCovenanter$Formula;)V"⟩
def RX4 : String := "Covenanter"
def TX4 : u_T := fun k => match k with
  | 0 => ("Covenanter", "amounts", "[[J", true)
  | 1 => ("Covenanter", "stack", "Ljava/util/ArrayList;", true)
  | 2 => ("Covenanter", "terms", "Ljava/util/ArrayList;", true)
  | 3 => ("Covenanter", "ratios", "Ljava/util/ArrayList;", true)
  | _ => ("Covenanter", "baskets", "Ljava/util/ArrayList;", true)
def tyX4 : Nat → FieldType := fun k => match k with
  | 0 => .array (.array .long)
  | 1 => .object "java/util/ArrayList"
  | 2 => .object "java/util/ArrayList"
  | 3 => .object "java/util/ArrayList"
  | _ => .object "java/util/ArrayList"
theorem nmX4 : ∀ a, a < 5 → ∀ b, b < 5 → a ≠ b → (TX4 a).2.1 ≠ (TX4 b).2.1 := by decide +kernel
theorem tyX4_ok : ∀ k, k < 5 → parseFieldDescriptor (TX4 k).2.2.1 = some (tyX4 k) := by decide +kernel
abbrev cX4_init : ByteArray := prog_1_method_1_code
def yX4_init : MethodName := ⟨RX4, "<init>", "()V"⟩
abbrev cX4_amount : ByteArray := prog_1_method_2_code
def yX4_amount : MethodName := ⟨RX4, "amount", "(III)I"⟩
abbrev cX4_account : ByteArray := prog_1_method_3_code
def yX4_account : MethodName := ⟨RX4, "account", "(I)I"⟩
abbrev cX4_number : ByteArray := prog_1_method_4_code
def yX4_number : MethodName := ⟨RX4, "number", "(I)I"⟩
abbrev cX4_term : ByteArray := prog_1_method_5_code
def yX4_term : MethodName := ⟨RX4, "term", "(I)I"⟩
abbrev cX4_join : ByteArray := prog_1_method_6_code
def yX4_join : MethodName := ⟨RX4, "join", "(I)I"⟩
abbrev cX4_share : ByteArray := prog_1_method_7_code
def yX4_share : MethodName := ⟨RX4, "share", "(I)I"⟩
abbrev cX4_year : ByteArray := prog_1_method_8_code
def yX4_year : MethodName := ⟨RX4, "year", "()I"⟩
abbrev cX4_clear : ByteArray := prog_1_method_9_code
def yX4_clear : MethodName := ⟨RX4, "clear", "()I"⟩
abbrev cX4_push : ByteArray := prog_1_method_10_code
def yX4_push : MethodName := ⟨RX4, "push", "(LCovenanter$Formula;)I"⟩
abbrev cX4_canGrow : ByteArray := prog_1_method_11_code
def yX4_canGrow : MethodName := ⟨RX4, "canGrow", "(LCovenanter$Formula;)Z"⟩
abbrev cX4_numbered : ByteArray := prog_1_method_12_code
def yX4_numbered : MethodName := ⟨RX4, "numbered", "(Ljava/lang/String;I)Ljava/lang/String;"⟩
abbrev cX4_joinText : ByteArray := prog_1_method_13_code
def yX4_joinText : MethodName := ⟨RX4, "joinText", "(ILjava/lang/String;Ljava/lang/String;)Ljava/lang/String;"⟩
abbrev cX4_shareText : ByteArray := prog_1_method_14_code
def yX4_shareText : MethodName := ⟨RX4, "shareText", "(ILjava/lang/String;)Ljava/lang/String;"⟩
abbrev cX4_yearText : ByteArray := prog_1_method_15_code
def yX4_yearText : MethodName := ⟨RX4, "yearText", "(Ljava/lang/String;)Ljava/lang/String;"⟩
abbrev cX4_define : ByteArray := prog_1_method_16_code
def yX4_define : MethodName := ⟨RX4, "define", "()I"⟩
abbrev cX4_amend : ByteArray := prog_1_method_17_code
def yX4_amend : MethodName := ⟨RX4, "amend", "(II)I"⟩
abbrev cX4_terms : ByteArray := prog_1_method_18_code
def yX4_terms : MethodName := ⟨RX4, "terms", "()I"⟩
abbrev cX4_level : ByteArray := prog_1_method_19_code
def yX4_level : MethodName := ⟨RX4, "level", "(I)I"⟩
abbrev cX4_value : ByteArray := prog_1_method_20_code
def yX4_value : MethodName := ⟨RX4, "value", "(II)J"⟩
abbrev cX4_textLength : ByteArray := prog_1_method_21_code
def yX4_textLength : MethodName := ⟨RX4, "textLength", "(II)I"⟩
abbrev cX4_textChar : ByteArray := prog_1_method_22_code
def yX4_textChar : MethodName := ⟨RX4, "textChar", "(III)C"⟩
abbrev cX4_canAmend : ByteArray := prog_1_method_23_code
def yX4_canAmend : MethodName := ⟨RX4, "canAmend", "(LCovenanter$Term;ILCovenanter$Formula;)Z"⟩
abbrev cX4_textIn : ByteArray := prog_1_method_24_code
def yX4_textIn : MethodName := ⟨RX4, "textIn", "(LCovenanter$Term;I)Ljava/lang/String;"⟩
abbrev cX4_settleTerms : ByteArray := prog_1_method_25_code
def yX4_settleTerms : MethodName := ⟨RX4, "settleTerms", "()V"⟩
abbrev cX4_settleTerm : ByteArray := prog_1_method_26_code
def yX4_settleTerm : MethodName := ⟨RX4, "settleTerm", "(LCovenanter$Term;)V"⟩
abbrev cX4_settleFormula : ByteArray := prog_1_method_27_code
def yX4_settleFormula : MethodName := ⟨RX4, "settleFormula", "(LCovenanter$Formula;I)V"⟩
abbrev cX4_valueMade : ByteArray := prog_1_method_28_code
def yX4_valueMade : MethodName := ⟨RX4, "valueMade", "(LCovenanter$Formula;I)J"⟩
abbrev cX4_joinOf : ByteArray := prog_1_method_29_code
def yX4_joinOf : MethodName := ⟨RX4, "joinOf", "(IJJ)J"⟩
abbrev cX4_shareOf : ByteArray := prog_1_method_30_code
def yX4_shareOf : MethodName := ⟨RX4, "shareOf", "(JI)J"⟩
abbrev cX4_yearOf : ByteArray := prog_1_method_31_code
def yX4_yearOf : MethodName := ⟨RX4, "yearOf", "([JI)J"⟩
abbrev cX4_test : ByteArray := prog_1_method_32_code
def yX4_test : MethodName := ⟨RX4, "test", "(II)I"⟩
abbrev cX4_limit : ByteArray := prog_1_method_33_code
def yX4_limit : MethodName := ⟨RX4, "limit", "(III)I"⟩
abbrev cX4_wake : ByteArray := prog_1_method_34_code
def yX4_wake : MethodName := ⟨RX4, "wake", "(III)I"⟩
abbrev cX4_cure : ByteArray := prog_1_method_35_code
def yX4_cure : MethodName := ⟨RX4, "cure", "(III)I"⟩
abbrev cX4_waive : ByteArray := prog_1_method_36_code
def yX4_waive : MethodName := ⟨RX4, "waive", "(II)Z"⟩
abbrev cX4_state : ByteArray := prog_1_method_37_code
def yX4_state : MethodName := ⟨RX4, "state", "(II)I"⟩
abbrev cX4_room : ByteArray := prog_1_method_38_code
def yX4_room : MethodName := ⟨RX4, "room", "(II)J"⟩
abbrev cX4_broken : ByteArray := prog_1_method_39_code
def yX4_broken : MethodName := ⟨RX4, "broken", "()I"⟩
abbrev cX4_stateIn : ByteArray := prog_1_method_40_code
def yX4_stateIn : MethodName := ⟨RX4, "stateIn", "(LCovenanter$Ratio;I)I"⟩
abbrev cX4_isBelowWake : ByteArray := prog_1_method_41_code
def yX4_isBelowWake : MethodName := ⟨RX4, "isBelowWake", "(LCovenanter$Ratio;I)Z"⟩
abbrev cX4_isKept : ByteArray := prog_1_method_42_code
def yX4_isKept : MethodName := ⟨RX4, "isKept", "(JJI)Z"⟩
abbrev cX4_limitIn : ByteArray := prog_1_method_43_code
def yX4_limitIn : MethodName := ⟨RX4, "limitIn", "(LCovenanter$Ratio;I)I"⟩
abbrev cX4_hasCureLeft : ByteArray := prog_1_method_44_code
def yX4_hasCureLeft : MethodName := ⟨RX4, "hasCureLeft", "([II)Z"⟩
abbrev cX4_curesFrom : ByteArray := prog_1_method_45_code
def yX4_curesFrom : MethodName := ⟨RX4, "curesFrom", "([II)I"⟩
abbrev cX4_basket : ByteArray := prog_1_method_46_code
def yX4_basket : MethodName := ⟨RX4, "basket", "(III)I"⟩
abbrev cX4_size : ByteArray := prog_1_method_47_code
def yX4_size : MethodName := ⟨RX4, "size", "(II)J"⟩
abbrev cX4_use : ByteArray := prog_1_method_48_code
def yX4_use : MethodName := ⟨RX4, "use", "(III)J"⟩
abbrev cX4_refill : ByteArray := prog_1_method_49_code
def yX4_refill : MethodName := ⟨RX4, "refill", "(II)J"⟩
abbrev cX4_sizeIn : ByteArray := prog_1_method_50_code
def yX4_sizeIn : MethodName := ⟨RX4, "sizeIn", "(LCovenanter$Basket;I)J"⟩
abbrev cX4_isWithin : ByteArray := prog_1_method_51_code
def yX4_isWithin : MethodName := ⟨RX4, "isWithin", "(III)Z"⟩
abbrev cX4_isAccount : ByteArray := prog_1_method_52_code
def yX4_isAccount : MethodName := ⟨RX4, "isAccount", "(I)Z"⟩
abbrev cX4_isQuarter : ByteArray := prog_1_method_53_code
def yX4_isQuarter : MethodName := ⟨RX4, "isQuarter", "(I)Z"⟩
abbrev cX4_isTerm : ByteArray := prog_1_method_54_code
def yX4_isTerm : MethodName := ⟨RX4, "isTerm", "(I)Z"⟩
abbrev cX4_isTest : ByteArray := prog_1_method_55_code
def yX4_isTest : MethodName := ⟨RX4, "isTest", "(I)Z"⟩
abbrev cX4_isBasket : ByteArray := prog_1_method_56_code
def yX4_isBasket : MethodName := ⟨RX4, "isBasket", "(I)Z"⟩
def RX5 : String := "CovenanterModel"
def TX5 : u_T := fun k => match k with
  | 0 => ("CovenanterModel", "thrown", "I", false)
  | 1 => ("CovenanterModel", "amounts", "[I", true)
  | 2 => ("CovenanterModel", "stack", "I", false)
  | 3 => ("CovenanterModel", "many", "[I", true)
  | 4 => ("CovenanterModel", "levels", "[I", true)
  | 5 => ("CovenanterModel", "kinds", "[I", true)
  | 6 => ("CovenanterModel", "numbers", "[I", true)
  | 7 => ("CovenanterModel", "terms", "I", false)
  | 8 => ("CovenanterModel", "termLevel", "[I", true)
  | 9 => ("CovenanterModel", "defined", "[I", true)
  | 10 => ("CovenanterModel", "defKinds", "[I", true)
  | 11 => ("CovenanterModel", "defNumbers", "[I", true)
  | 12 => ("CovenanterModel", "values", "[J", true)
  | 13 => ("CovenanterModel", "work", "[J", true)
  | 14 => ("CovenanterModel", "text", "[C", true)
  | 15 => ("CovenanterModel", "length", "I", false)
  | 16 => ("CovenanterModel", "starts", "[I", true)
  | 17 => ("CovenanterModel", "tests", "I", false)
  | 18 => ("CovenanterModel", "top", "[I", true)
  | 19 => ("CovenanterModel", "bottom", "[I", true)
  | 20 => ("CovenanterModel", "limits", "[I", true)
  | 21 => ("CovenanterModel", "wakeBy", "[I", true)
  | 22 => ("CovenanterModel", "least", "[I", true)
  | 23 => ("CovenanterModel", "cures", "[I", true)
  | 24 => ("CovenanterModel", "isWaived", "[Z", true)
  | 25 => ("CovenanterModel", "baskets", "I", false)
  | 26 => ("CovenanterModel", "fixed", "[I", true)
  | 27 => ("CovenanterModel", "basketTerm", "[I", true)
  | 28 => ("CovenanterModel", "percents", "[I", true)
  | _ => ("CovenanterModel", "used", "[J", true)
def tyX5 : Nat → FieldType := fun k => match k with
  | 0 => .int
  | 1 => .array .int
  | 2 => .int
  | 3 => .array .int
  | 4 => .array .int
  | 5 => .array .int
  | 6 => .array .int
  | 7 => .int
  | 8 => .array .int
  | 9 => .array .int
  | 10 => .array .int
  | 11 => .array .int
  | 12 => .array .long
  | 13 => .array .long
  | 14 => .array .char
  | 15 => .int
  | 16 => .array .int
  | 17 => .int
  | 18 => .array .int
  | 19 => .array .int
  | 20 => .array .int
  | 21 => .array .int
  | 22 => .array .int
  | 23 => .array .int
  | 24 => .array .boolean
  | 25 => .int
  | 26 => .array .int
  | 27 => .array .int
  | 28 => .array .int
  | _ => .array .long
theorem nmX5 : ∀ a, a < 30 → ∀ b, b < 30 → a ≠ b → (TX5 a).2.1 ≠ (TX5 b).2.1 := by decide +kernel
theorem tyX5_ok : ∀ k, k < 30 → parseFieldDescriptor (TX5 k).2.2.1 = some (tyX5 k) := by decide +kernel
abbrev cX5_init : ByteArray := prog_7_method_1_code
def yX5_init : MethodName := ⟨RX5, "<init>", "()V"⟩
abbrev cX5_thrown : ByteArray := prog_7_method_2_code
def yX5_thrown : MethodName := ⟨RX5, "thrown", "()I"⟩
abbrev cX5_isIn : ByteArray := prog_7_method_3_code
def yX5_isIn : MethodName := ⟨RX5, "isIn", "(III)Z"⟩
abbrev cX5_isQuarter : ByteArray := prog_7_method_4_code
def yX5_isQuarter : MethodName := ⟨RX5, "isQuarter", "(I)Z"⟩
abbrev cX5_isAccount : ByteArray := prog_7_method_5_code
def yX5_isAccount : MethodName := ⟨RX5, "isAccount", "(I)Z"⟩
abbrev cX5_isTerm : ByteArray := prog_7_method_6_code
def yX5_isTerm : MethodName := ⟨RX5, "isTerm", "(I)Z"⟩
abbrev cX5_down : ByteArray := prog_7_method_7_code
def yX5_down : MethodName := ⟨RX5, "down", "(JI)J"⟩
abbrev cX5_amount : ByteArray := prog_7_method_8_code
def yX5_amount : MethodName := ⟨RX5, "amount", "(III)I"⟩
abbrev cX5_adds : ByteArray := prog_7_method_9_code
def yX5_adds : MethodName := ⟨RX5, "adds", "(III)V"⟩
abbrev cX5_pushes : ByteArray := prog_7_method_10_code
def yX5_pushes : MethodName := ⟨RX5, "pushes", "(III)I"⟩
abbrev cX5_account : ByteArray := prog_7_method_11_code
def yX5_account : MethodName := ⟨RX5, "account", "(I)I"⟩
abbrev cX5_number : ByteArray := prog_7_method_12_code
def yX5_number : MethodName := ⟨RX5, "number", "(I)I"⟩
abbrev cX5_term : ByteArray := prog_7_method_13_code
def yX5_term : MethodName := ⟨RX5, "term", "(I)I"⟩
abbrev cX5_join : ByteArray := prog_7_method_14_code
def yX5_join : MethodName := ⟨RX5, "join", "(I)I"⟩
abbrev cX5_grows : ByteArray := prog_7_method_15_code
def yX5_grows : MethodName := ⟨RX5, "grows", "(II)I"⟩
abbrev cX5_canGrow : ByteArray := prog_7_method_16_code
def yX5_canGrow : MethodName := ⟨RX5, "canGrow", "()Z"⟩
abbrev cX5_share : ByteArray := prog_7_method_17_code
def yX5_share : MethodName := ⟨RX5, "share", "(I)I"⟩
abbrev cX5_year : ByteArray := prog_7_method_18_code
def yX5_year : MethodName := ⟨RX5, "year", "()I"⟩
abbrev cX5_clear : ByteArray := prog_7_method_19_code
def yX5_clear : MethodName := ⟨RX5, "clear", "()I"⟩
abbrev cX5_defines : ByteArray := prog_7_method_20_code
def yX5_defines : MethodName := ⟨RX5, "defines", "(II)V"⟩
abbrev cX5_define : ByteArray := prog_7_method_21_code
def yX5_define : MethodName := ⟨RX5, "define", "()I"⟩
abbrev cX5_greatestNamed : ByteArray := prog_7_method_22_code
def yX5_greatestNamed : MethodName := ⟨RX5, "greatestNamed", "()I"⟩
abbrev cX5_amend : ByteArray := prog_7_method_23_code
def yX5_amend : MethodName := ⟨RX5, "amend", "(II)I"⟩
abbrev cX5_terms : ByteArray := prog_7_method_24_code
def yX5_terms : MethodName := ⟨RX5, "terms", "()I"⟩
abbrev cX5_level : ByteArray := prog_7_method_25_code
def yX5_level : MethodName := ⟨RX5, "level", "(I)I"⟩
abbrev cX5_holding : ByteArray := prog_7_method_26_code
def yX5_holding : MethodName := ⟨RX5, "holding", "(II)I"⟩
abbrev cX5_leaf : ByteArray := prog_7_method_27_code
def yX5_leaf : MethodName := ⟨RX5, "leaf", "(III)J"⟩
abbrev cX5_joined : ByteArray := prog_7_method_28_code
def yX5_joined : MethodName := ⟨RX5, "joined", "(IJJ)J"⟩
abbrev cX5_works : ByteArray := prog_7_method_29_code
def yX5_works : MethodName := ⟨RX5, "works", "(I)V"⟩
abbrev cX5_tells : ByteArray := prog_7_method_30_code
def yX5_tells : MethodName := ⟨RX5, "tells", "()V"⟩
abbrev cX5_value : ByteArray := prog_7_method_31_code
def yX5_value : MethodName := ⟨RX5, "value", "(II)J"⟩
abbrev cX5_inserts : ByteArray := prog_7_method_32_code
def yX5_inserts : MethodName := ⟨RX5, "inserts", "(IC)V"⟩
abbrev cX5_insertsNumber : ByteArray := prog_7_method_33_code
def yX5_insertsNumber : MethodName := ⟨RX5, "insertsNumber", "(II)I"⟩
abbrev cX5_insertsWord : ByteArray := prog_7_method_34_code
def yX5_insertsWord : MethodName := ⟨RX5, "insertsWord", "(ICCCCC)I"⟩
abbrev cX5_joinsText : ByteArray := prog_7_method_35_code
def yX5_joinsText : MethodName := ⟨RX5, "joinsText", "(III)V"⟩
abbrev cX5_writes : ByteArray := prog_7_method_36_code
def yX5_writes : MethodName := ⟨RX5, "writes", "(I)V"⟩
abbrev cX5_textLength : ByteArray := prog_7_method_37_code
def yX5_textLength : MethodName := ⟨RX5, "textLength", "(II)I"⟩
abbrev cX5_textChar : ByteArray := prog_7_method_38_code
def yX5_textChar : MethodName := ⟨RX5, "textChar", "(III)C"⟩
abbrev cX5_isTest : ByteArray := prog_7_method_39_code
def yX5_isTest : MethodName := ⟨RX5, "isTest", "(I)Z"⟩
abbrev cX5_test : ByteArray := prog_7_method_40_code
def yX5_test : MethodName := ⟨RX5, "test", "(II)I"⟩
abbrev cX5_limit : ByteArray := prog_7_method_41_code
def yX5_limit : MethodName := ⟨RX5, "limit", "(III)I"⟩
abbrev cX5_limitOf : ByteArray := prog_7_method_42_code
def yX5_limitOf : MethodName := ⟨RX5, "limitOf", "(II)I"⟩
abbrev cX5_wake : ByteArray := prog_7_method_43_code
def yX5_wake : MethodName := ⟨RX5, "wake", "(III)I"⟩
abbrev cX5_curesAround : ByteArray := prog_7_method_44_code
def yX5_curesAround : MethodName := ⟨RX5, "curesAround", "(II)I"⟩
abbrev cX5_cure : ByteArray := prog_7_method_45_code
def yX5_cure : MethodName := ⟨RX5, "cure", "(III)I"⟩
abbrev cX5_waive : ByteArray := prog_7_method_46_code
def yX5_waive : MethodName := ⟨RX5, "waive", "(II)Z"⟩
abbrev cX5_isKept : ByteArray := prog_7_method_47_code
def yX5_isKept : MethodName := ⟨RX5, "isKept", "(IIJ)Z"⟩
abbrev cX5_stateOf : ByteArray := prog_7_method_48_code
def yX5_stateOf : MethodName := ⟨RX5, "stateOf", "(II)I"⟩
abbrev cX5_state : ByteArray := prog_7_method_49_code
def yX5_state : MethodName := ⟨RX5, "state", "(II)I"⟩
abbrev cX5_room : ByteArray := prog_7_method_50_code
def yX5_room : MethodName := ⟨RX5, "room", "(II)J"⟩
abbrev cX5_broken : ByteArray := prog_7_method_51_code
def yX5_broken : MethodName := ⟨RX5, "broken", "()I"⟩
abbrev cX5_isBasket : ByteArray := prog_7_method_52_code
def yX5_isBasket : MethodName := ⟨RX5, "isBasket", "(I)Z"⟩
abbrev cX5_basket : ByteArray := prog_7_method_53_code
def yX5_basket : MethodName := ⟨RX5, "basket", "(III)I"⟩
abbrev cX5_sizeOf : ByteArray := prog_7_method_54_code
def yX5_sizeOf : MethodName := ⟨RX5, "sizeOf", "(II)J"⟩
abbrev cX5_size : ByteArray := prog_7_method_55_code
def yX5_size : MethodName := ⟨RX5, "size", "(II)J"⟩
abbrev cX5_use : ByteArray := prog_7_method_56_code
def yX5_use : MethodName := ⟨RX5, "use", "(III)J"⟩
abbrev cX5_refill : ByteArray := prog_7_method_57_code
def yX5_refill : MethodName := ⟨RX5, "refill", "(II)J"⟩
def RJx145de : String := "java/io/Serializable"
def TJx145de : u_T := fun k => match k with
  | _ => ("", "", "", false)
def tyJx145de : Nat → FieldType := fun k => match k with
  | _ => .int
theorem nmJx145de : ∀ a, a < 0 → ∀ b, b < 0 → a ≠ b → (TJx145de a).2.1 ≠ (TJx145de b).2.1 := by decide +kernel
theorem tyJx145de_ok : ∀ k, k < 0 → parseFieldDescriptor (TJx145de k).2.2.1 = some (tyJx145de k) := by decide +kernel
def RJ5 : String := "java/lang/AbstractStringBuilder"
def TJ5 : u_T := fun k => match k with
  | _ => ("", "", "", false)
def tyJ5 : Nat → FieldType := fun k => match k with
  | _ => .int
theorem nmJ5 : ∀ a, a < 0 → ∀ b, b < 0 → a ≠ b → (TJ5 a).2.1 ≠ (TJ5 b).2.1 := by decide +kernel
theorem tyJ5_ok : ∀ k, k < 0 → parseFieldDescriptor (TJ5 k).2.2.1 = some (tyJ5 k) := by decide +kernel
abbrev cJ5_init_d00df : ByteArray := prog_9_method_2_code
def yJ5_init_d00df : MethodName := ⟨RJ5, "<init>", "(I)V"⟩
abbrev cJ5_length_8abf5 : ByteArray := prog_9_method_6_code
def yJ5_length_8abf5 : MethodName := ⟨RJ5, "length", "()I"⟩
abbrev cJ5_ensureCapacityInternal_d00df : ByteArray := prog_9_method_9_code
def yJ5_ensureCapacityInternal_d00df : MethodName := ⟨RJ5, "ensureCapacityInternal", "(I)V"⟩
abbrev cJ5_newCapacity_0f7a4 : ByteArray := prog_9_method_10_code
def yJ5_newCapacity_0f7a4 : MethodName := ⟨RJ5, "newCapacity", "(I)I"⟩
abbrev cJ5_inflate_da8c8 : ByteArray := prog_9_method_11_code
def yJ5_inflate_da8c8 : MethodName := ⟨RJ5, "inflate", "()V"⟩
abbrev cJ5_append_cf1ce : ByteArray := prog_9_method_22_code
def yJ5_append_cf1ce : MethodName := ⟨RJ5, "append", "(Ljava/lang/String;)Ljava/lang/AbstractStringBuilder;"⟩
abbrev cJ5_appendNull_278bc : ByteArray := prog_9_method_26_code
def yJ5_appendNull_278bc : MethodName := ⟨RJ5, "appendNull", "()Ljava/lang/AbstractStringBuilder;"⟩
abbrev cJ5_append_3fe6f : ByteArray := prog_9_method_31_code
def yJ5_append_3fe6f : MethodName := ⟨RJ5, "append", "(C)Ljava/lang/AbstractStringBuilder;"⟩
abbrev cJ5_append_c97b9 : ByteArray := prog_9_method_32_code
def yJ5_append_c97b9 : MethodName := ⟨RJ5, "append", "(I)Ljava/lang/AbstractStringBuilder;"⟩
abbrev cJ5_getValue_6d5f1 : ByteArray := prog_9_method_64_code
def yJ5_getValue_6d5f1 : MethodName := ⟨RJ5, "getValue", "()[B"⟩
abbrev cJ5_isLatin1_aae02 : ByteArray := prog_9_method_68_code
def yJ5_isLatin1_aae02 : MethodName := ⟨RJ5, "isLatin1", "()Z"⟩
abbrev cJ5_inflateIfNeededFor_a7421 : ByteArray := prog_9_method_71_code
def yJ5_inflateIfNeededFor_a7421 : MethodName := ⟨RJ5, "inflateIfNeededFor", "(Ljava/lang/String;)V"⟩
abbrev cJ5_putStringAt_47b60 : ByteArray := prog_9_method_73_code
def yJ5_putStringAt_47b60 : MethodName := ⟨RJ5, "putStringAt", "(ILjava/lang/String;)V"⟩
def RJx2cfe8 : String := "java/lang/Appendable"
def TJx2cfe8 : u_T := fun k => match k with
  | _ => ("", "", "", false)
def tyJx2cfe8 : Nat → FieldType := fun k => match k with
  | _ => .int
theorem nmJx2cfe8 : ∀ a, a < 0 → ∀ b, b < 0 → a ≠ b → (TJx2cfe8 a).2.1 ≠ (TJx2cfe8 b).2.1 := by decide +kernel
theorem tyJx2cfe8_ok : ∀ k, k < 0 → parseFieldDescriptor (TJx2cfe8 k).2.2.1 = some (tyJx2cfe8 k) := by decide +kernel
def RJx9f9b0 : String := "java/lang/CharSequence"
def TJx9f9b0 : u_T := fun k => match k with
  | _ => ("", "", "", false)
def tyJx9f9b0 : Nat → FieldType := fun k => match k with
  | _ => .int
theorem nmJx9f9b0 : ∀ a, a < 0 → ∀ b, b < 0 → a ≠ b → (TJx9f9b0 a).2.1 ≠ (TJx9f9b0 b).2.1 := by decide +kernel
theorem tyJx9f9b0_ok : ∀ k, k < 0 → parseFieldDescriptor (TJx9f9b0 k).2.2.1 = some (tyJx9f9b0 k) := by decide +kernel
def RJx8e188 : String := "java/lang/Cloneable"
def TJx8e188 : u_T := fun k => match k with
  | _ => ("", "", "", false)
def tyJx8e188 : Nat → FieldType := fun k => match k with
  | _ => .int
theorem nmJx8e188 : ∀ a, a < 0 → ∀ b, b < 0 → a ≠ b → (TJx8e188 a).2.1 ≠ (TJx8e188 b).2.1 := by decide +kernel
theorem tyJx8e188_ok : ∀ k, k < 0 → parseFieldDescriptor (TJx8e188 k).2.2.1 = some (tyJx8e188 k) := by decide +kernel
def RJxb160c : String := "java/lang/Comparable"
def TJxb160c : u_T := fun k => match k with
  | _ => ("", "", "", false)
def tyJxb160c : Nat → FieldType := fun k => match k with
  | _ => .int
theorem nmJxb160c : ∀ a, a < 0 → ∀ b, b < 0 → a ≠ b → (TJxb160c a).2.1 ≠ (TJxb160c b).2.1 := by decide +kernel
theorem tyJxb160c_ok : ∀ k, k < 0 → parseFieldDescriptor (TJxb160c k).2.2.1 = some (tyJxb160c k) := by decide +kernel
def RJ6 : String := "java/lang/Integer"
def TJ6 : u_T := fun k => match k with
  | _ => ("", "", "", false)
def tyJ6 : Nat → FieldType := fun k => match k with
  | _ => .int
theorem nmJ6 : ∀ a, a < 0 → ∀ b, b < 0 → a ≠ b → (TJ6 a).2.1 ≠ (TJ6 b).2.1 := by decide +kernel
theorem tyJ6_ok : ∀ k, k < 0 → parseFieldDescriptor (TJ6 k).2.2.1 = some (tyJ6 k) := by decide +kernel
abbrev cJ6_getChars_ba4f3 : ByteArray := prog_18_method_12_code
def yJ6_getChars_ba4f3 : MethodName := ⟨RJ6, "getChars", "(II[B)I"⟩
abbrev cJ6_stringSize_0f7a4 : ByteArray := prog_18_method_13_code
def yJ6_stringSize_0f7a4 : MethodName := ⟨RJ6, "stringSize", "(I)I"⟩
def RJxab1ab : String := "java/lang/Iterable"
def TJxab1ab : u_T := fun k => match k with
  | _ => ("", "", "", false)
def tyJxab1ab : Nat → FieldType := fun k => match k with
  | _ => .int
theorem nmJxab1ab : ∀ a, a < 0 → ∀ b, b < 0 → a ≠ b → (TJxab1ab a).2.1 ≠ (TJxab1ab b).2.1 := by decide +kernel
theorem tyJxab1ab_ok : ∀ k, k < 0 → parseFieldDescriptor (TJxab1ab k).2.2.1 = some (tyJxab1ab k) := by decide +kernel
def RJ9 : String := "java/lang/Math"
def TJ9 : u_T := fun k => match k with
  | _ => ("", "", "", false)
def tyJ9 : Nat → FieldType := fun k => match k with
  | _ => .int
theorem nmJ9 : ∀ a, a < 0 → ∀ b, b < 0 → a ≠ b → (TJ9 a).2.1 ≠ (TJ9 b).2.1 := by decide +kernel
theorem tyJ9_ok : ∀ k, k < 0 → parseFieldDescriptor (TJ9 k).2.2.1 = some (tyJ9 k) := by decide +kernel
abbrev cJ9_floorDiv_f86c9 : ByteArray := prog_20_method_49_code
def yJ9_floorDiv_f86c9 : MethodName := ⟨RJ9, "floorDiv", "(JJ)J"⟩
abbrev cJ9_max_7cf53 : ByteArray := prog_20_method_65_code
def yJ9_max_7cf53 : MethodName := ⟨RJ9, "max", "(II)I"⟩
abbrev cJ9_max_f86c9 : ByteArray := prog_20_method_66_code
def yJ9_max_f86c9 : MethodName := ⟨RJ9, "max", "(JJ)J"⟩
abbrev cJ9_min_7cf53 : ByteArray := prog_20_method_69_code
def yJ9_min_7cf53 : MethodName := ⟨RJ9, "min", "(II)I"⟩
abbrev cJ9_min_f86c9 : ByteArray := prog_20_method_70_code
def yJ9_min_f86c9 : MethodName := ⟨RJ9, "min", "(JJ)J"⟩
def RJxd2413 : String := "java/lang/Number"
def TJxd2413 : u_T := fun k => match k with
  | _ => ("", "", "", false)
def tyJxd2413 : Nat → FieldType := fun k => match k with
  | _ => .int
theorem nmJxd2413 : ∀ a, a < 0 → ∀ b, b < 0 → a ≠ b → (TJxd2413 a).2.1 ≠ (TJxd2413 b).2.1 := by decide +kernel
theorem tyJxd2413_ok : ∀ k, k < 0 → parseFieldDescriptor (TJxd2413 k).2.2.1 = some (tyJxd2413 k) := by decide +kernel
def RJ0 : String := "java/lang/String"
def TJ0 : u_T := fun k => match k with
  | 0 => ("java/lang/String", "value", "[B", true)
  | 1 => ("java/lang/String", "coder", "B", true)
  | 2 => ("java/lang/String", "hash", "I", false)
  | _ => ("java/lang/String", "hashIsZero", "Z", false)
def tyJ0 : Nat → FieldType := fun k => match k with
  | 0 => .array .byte
  | 1 => .byte
  | 2 => .int
  | _ => .boolean
theorem nmJ0 : ∀ a, a < 4 → ∀ b, b < 4 → a ≠ b → (TJ0 a).2.1 ≠ (TJ0 b).2.1 := by decide +kernel
theorem tyJ0_ok : ∀ k, k < 4 → parseFieldDescriptor (TJ0 k).2.2.1 = some (tyJ0 k) := by decide +kernel
abbrev cJ0_init_81219 : ByteArray := prog_23_method_53_code
def yJ0_init_81219 : MethodName := ⟨RJ0, "<init>", "(Ljava/lang/StringBuilder;)V"⟩
abbrev cJ0_length_8abf5 : ByteArray := prog_23_method_54_code
def yJ0_length_8abf5 : MethodName := ⟨RJ0, "length", "()I"⟩
abbrev cJ0_charAt_5068e : ByteArray := prog_23_method_56_code
def yJ0_charAt_5068e : MethodName := ⟨RJ0, "charAt", "(I)C"⟩
abbrev cJ0_getBytes_840e7 : ByteArray := prog_23_method_147_code
def yJ0_getBytes_840e7 : MethodName := ⟨RJ0, "getBytes", "([BIB)V"⟩
abbrev cJ0_init_db425 : ByteArray := prog_23_method_150_code
def yJ0_init_db425 : MethodName := ⟨RJ0, "<init>", "(Ljava/lang/AbstractStringBuilder;Ljava/lang/Void;)V"⟩
abbrev cJ0_coder_7d493 : ByteArray := prog_23_method_152_code
def yJ0_coder_7d493 : MethodName := ⟨RJ0, "coder", "()B"⟩
abbrev cJ0_isLatin1_aae02 : ByteArray := prog_23_method_154_code
def yJ0_isLatin1_aae02 : MethodName := ⟨RJ0, "isLatin1", "()Z"⟩
abbrev cJ0_checkIndex_df160 : ByteArray := prog_23_method_155_code
def yJ0_checkIndex_df160 : MethodName := ⟨RJ0, "checkIndex", "(II)V"⟩
abbrev cJ0_checkBoundsOffCount_cabcc : ByteArray := prog_23_method_157_code
def yJ0_checkBoundsOffCount_cabcc : MethodName := ⟨RJ0, "checkBoundsOffCount", "(III)I"⟩
abbrev cJ0_checkBoundsBeginEnd_23922 : ByteArray := prog_23_method_158_code
def yJ0_checkBoundsBeginEnd_23922 : MethodName := ⟨RJ0, "checkBoundsBeginEnd", "(III)V"⟩
def RJ4 : String := "java/lang/StringBuilder"
def TJ4 : u_T := fun k => match k with
  | 0 => ("java/lang/AbstractStringBuilder", "value", "[B", false)
  | 1 => ("java/lang/AbstractStringBuilder", "coder", "B", false)
  | 2 => ("java/lang/AbstractStringBuilder", "maybeLatin1", "Z", false)
  | _ => ("java/lang/AbstractStringBuilder", "count", "I", false)
def tyJ4 : Nat → FieldType := fun k => match k with
  | 0 => .array .byte
  | 1 => .byte
  | 2 => .boolean
  | _ => .int
theorem nmJ4 : ∀ a, a < 4 → ∀ b, b < 4 → a ≠ b → (TJ4 a).2.1 ≠ (TJ4 b).2.1 := by decide +kernel
theorem tyJ4_ok : ∀ k, k < 4 → parseFieldDescriptor (TJ4 k).2.2.1 = some (tyJ4 k) := by decide +kernel
abbrev cJ4_init_da8c8 : ByteArray := prog_24_method_1_code
def yJ4_init_da8c8 : MethodName := ⟨RJ4, "<init>", "()V"⟩
abbrev cJ4_append_15ec4 : ByteArray := prog_24_method_7_code
def yJ4_append_15ec4 : MethodName := ⟨RJ4, "append", "(Ljava/lang/String;)Ljava/lang/StringBuilder;"⟩
abbrev cJ4_append_cf468 : ByteArray := prog_24_method_14_code
def yJ4_append_cf468 : MethodName := ⟨RJ4, "append", "(C)Ljava/lang/StringBuilder;"⟩
abbrev cJ4_append_bf812 : ByteArray := prog_24_method_15_code
def yJ4_append_bf812 : MethodName := ⟨RJ4, "append", "(I)Ljava/lang/StringBuilder;"⟩
abbrev cJ4_toString_0e30d : ByteArray := prog_24_method_42_code
def yJ4_toString_0e30d : MethodName := ⟨RJ4, "toString", "()Ljava/lang/String;"⟩
abbrev cJ4_length_8abf5 : ByteArray := prog_24_method_93_code
def yJ4_length_8abf5 : MethodName := ⟨RJ4, "length", "()I"⟩
def RJ1 : String := "java/lang/StringLatin1"
def TJ1 : u_T := fun k => match k with
  | _ => ("", "", "", false)
def tyJ1 : Nat → FieldType := fun k => match k with
  | _ => .int
theorem nmJ1 : ∀ a, a < 0 → ∀ b, b < 0 → a ≠ b → (TJ1 a).2.1 ≠ (TJ1 b).2.1 := by decide +kernel
theorem tyJ1_ok : ∀ k, k < 0 → parseFieldDescriptor (TJ1 k).2.2.1 = some (tyJ1 k) := by decide +kernel
abbrev cJ1_charAt_3b067 : ByteArray := prog_25_method_2_code
def yJ1_charAt_3b067 : MethodName := ⟨RJ1, "charAt", "([BI)C"⟩
abbrev cJ1_canEncode_fc78d : ByteArray := prog_25_method_3_code
def yJ1_canEncode_fc78d : MethodName := ⟨RJ1, "canEncode", "(C)Z"⟩
abbrev cJ1_inflate_0e8fd : ByteArray := prog_25_method_50_code
def yJ1_inflate_0e8fd : MethodName := ⟨RJ1, "inflate", "([BI[BII)V"⟩
def RJ2 : String := "java/lang/StringUTF16"
def TJ2 : u_T := fun k => match k with
  | _ => ("", "", "", false)
def tyJ2 : Nat → FieldType := fun k => match k with
  | _ => .int
theorem nmJ2 : ∀ a, a < 0 → ∀ b, b < 0 → a ≠ b → (TJ2 a).2.1 ≠ (TJ2 b).2.1 := by decide +kernel
theorem tyJ2_ok : ∀ k, k < 0 → parseFieldDescriptor (TJ2 k).2.2.1 = some (tyJ2 k) := by decide +kernel
abbrev cJ2_newBytesFor_77867 : ByteArray := prog_26_method_2_code
def yJ2_newBytesFor_77867 : MethodName := ⟨RJ2, "newBytesFor", "(I)[B"⟩
abbrev cJ2_newBytesLength_0f7a4 : ByteArray := prog_26_method_3_code
def yJ2_newBytesLength_0f7a4 : MethodName := ⟨RJ2, "newBytesLength", "(I)I"⟩
abbrev cJ2_putChar_b72d1 : ByteArray := prog_26_method_4_code
def yJ2_putChar_b72d1 : MethodName := ⟨RJ2, "putChar", "([BII)V"⟩
abbrev cJ2_getChar_3b067 : ByteArray := prog_26_method_5_code
def yJ2_getChar_3b067 : MethodName := ⟨RJ2, "getChar", "([BI)C"⟩
abbrev cJ2_length_9d52b : ByteArray := prog_26_method_6_code
def yJ2_length_9d52b : MethodName := ⟨RJ2, "length", "([B)I"⟩
abbrev cJ2_coderFromArrayLen_85cad : ByteArray := prog_26_method_15_code
def yJ2_coderFromArrayLen_85cad : MethodName := ⟨RJ2, "coderFromArrayLen", "([BI)B"⟩
abbrev cJ2_compress_39247 : ByteArray := prog_26_method_17_code
def yJ2_compress_39247 : MethodName := ⟨RJ2, "compress", "([BII)[B"⟩
abbrev cJ2_compress_5af95 : ByteArray := prog_26_method_22_code
def yJ2_compress_5af95 : MethodName := ⟨RJ2, "compress", "([BI[BII)I"⟩
abbrev cJ2_putCharSB_b72d1 : ByteArray := prog_26_method_71_code
def yJ2_putCharSB_b72d1 : MethodName := ⟨RJ2, "putCharSB", "([BII)V"⟩
abbrev cJ2_getChars_46870 : ByteArray := prog_26_method_77_code
def yJ2_getChars_46870 : MethodName := ⟨RJ2, "getChars", "(III[B)I"⟩
abbrev cJ2_putCharsAt_cd4e5 : ByteArray := prog_26_method_81_code
def yJ2_putCharsAt_cd4e5 : MethodName := ⟨RJ2, "putCharsAt", "([BICCCC)I"⟩
abbrev cJ2_charAt_3b067 : ByteArray := prog_26_method_83_code
def yJ2_charAt_3b067 : MethodName := ⟨RJ2, "charAt", "([BI)C"⟩
abbrev cJ2_inflate_0e8fd : ByteArray := prog_26_method_86_code
def yJ2_inflate_0e8fd : MethodName := ⟨RJ2, "inflate", "([BI[BII)V"⟩
abbrev cJ2_getChars_ba4f3 : ByteArray := prog_26_method_89_code
def yJ2_getChars_ba4f3 : MethodName := ⟨RJ2, "getChars", "(II[B)I"⟩
abbrev cJ2_checkIndex_2214a : ByteArray := prog_26_method_91_code
def yJ2_checkIndex_2214a : MethodName := ⟨RJ2, "checkIndex", "(I[B)V"⟩
abbrev cJ2_checkBoundsBeginEnd_d044e : ByteArray := prog_26_method_93_code
def yJ2_checkBoundsBeginEnd_d044e : MethodName := ⟨RJ2, "checkBoundsBeginEnd", "(II[B)V"⟩
abbrev cJ2_checkBoundsOffCount_d044e : ByteArray := prog_26_method_94_code
def yJ2_checkBoundsOffCount_d044e : MethodName := ⟨RJ2, "checkBoundsOffCount", "(II[B)V"⟩
def RJ10 : String := "java/lang/System"
def TJ10 : u_T := fun k => match k with
  | _ => ("", "", "", false)
def tyJ10 : Nat → FieldType := fun k => match k with
  | _ => .int
theorem nmJ10 : ∀ a, a < 0 → ∀ b, b < 0 → a ≠ b → (TJ10 a).2.1 ≠ (TJ10 b).2.1 := by decide +kernel
theorem tyJ10_ok : ∀ k, k < 0 → parseFieldDescriptor (TJ10 k).2.2.1 = some (tyJ10 k) := by decide +kernel
def RJxfd54e : String := "java/lang/constant/Constable"
def TJxfd54e : u_T := fun k => match k with
  | _ => ("", "", "", false)
def tyJxfd54e : Nat → FieldType := fun k => match k with
  | _ => .int
theorem nmJxfd54e : ∀ a, a < 0 → ∀ b, b < 0 → a ≠ b → (TJxfd54e a).2.1 ≠ (TJxfd54e b).2.1 := by decide +kernel
theorem tyJxfd54e_ok : ∀ k, k < 0 → parseFieldDescriptor (TJxfd54e k).2.2.1 = some (tyJxfd54e k) := by decide +kernel
def RJx3cf43 : String := "java/lang/constant/ConstantDesc"
def TJx3cf43 : u_T := fun k => match k with
  | _ => ("", "", "", false)
def tyJx3cf43 : Nat → FieldType := fun k => match k with
  | _ => .int
theorem nmJx3cf43 : ∀ a, a < 0 → ∀ b, b < 0 → a ≠ b → (TJx3cf43 a).2.1 ≠ (TJx3cf43 b).2.1 := by decide +kernel
theorem tyJx3cf43_ok : ∀ k, k < 0 → parseFieldDescriptor (TJx3cf43 k).2.2.1 = some (tyJx3cf43 k) := by decide +kernel
def RJxa1e45 : String := "java/util/AbstractCollection"
def TJxa1e45 : u_T := fun k => match k with
  | _ => ("", "", "", false)
def tyJxa1e45 : Nat → FieldType := fun k => match k with
  | _ => .int
theorem nmJxa1e45 : ∀ a, a < 0 → ∀ b, b < 0 → a ≠ b → (TJxa1e45 a).2.1 ≠ (TJxa1e45 b).2.1 := by decide +kernel
theorem tyJxa1e45_ok : ∀ k, k < 0 → parseFieldDescriptor (TJxa1e45 k).2.2.1 = some (tyJxa1e45 k) := by decide +kernel
abbrev cJxa1e45_init_da8c8 : ByteArray := prog_31_method_1_code
def yJxa1e45_init_da8c8 : MethodName := ⟨RJxa1e45, "<init>", "()V"⟩
def RJxc12de : String := "java/util/AbstractList"
def TJxc12de : u_T := fun k => match k with
  | _ => ("", "", "", false)
def tyJxc12de : Nat → FieldType := fun k => match k with
  | _ => .int
theorem nmJxc12de : ∀ a, a < 0 → ∀ b, b < 0 → a ≠ b → (TJxc12de a).2.1 ≠ (TJxc12de b).2.1 := by decide +kernel
theorem tyJxc12de_ok : ∀ k, k < 0 → parseFieldDescriptor (TJxc12de k).2.2.1 = some (tyJxc12de k) := by decide +kernel
abbrev cJxc12de_init_da8c8 : ByteArray := prog_32_method_1_code
def yJxc12de_init_da8c8 : MethodName := ⟨RJxc12de, "<init>", "()V"⟩
def RJx4a65c : String := "java/util/ArrayList"
def TJx4a65c : u_T := fun k => match k with
  | 0 => ("java/util/AbstractList", "modCount", "I", false)
  | 1 => ("java/util/ArrayList", "elementData", "[Ljava/lang/Object;", false)
  | _ => ("java/util/ArrayList", "size", "I", false)
def tyJx4a65c : Nat → FieldType := fun k => match k with
  | 0 => .int
  | 1 => .array (.object "java/lang/Object")
  | _ => .int
theorem nmJx4a65c : ∀ a, a < 3 → ∀ b, b < 3 → a ≠ b → (TJx4a65c a).2.1 ≠ (TJx4a65c b).2.1 := by decide +kernel
theorem tyJx4a65c_ok : ∀ k, k < 3 → parseFieldDescriptor (TJx4a65c k).2.2.1 = some (tyJx4a65c k) := by decide +kernel
abbrev cJx4a65c_init_da8c8 : ByteArray := prog_33_method_2_code
def yJx4a65c_init_da8c8 : MethodName := ⟨RJx4a65c, "<init>", "()V"⟩
abbrev cJx4a65c_grow_92f84 : ByteArray := prog_33_method_6_code
def yJx4a65c_grow_92f84 : MethodName := ⟨RJx4a65c, "grow", "(I)[Ljava/lang/Object;"⟩
abbrev cJx4a65c_grow_d5877 : ByteArray := prog_33_method_7_code
def yJx4a65c_grow_d5877 : MethodName := ⟨RJx4a65c, "grow", "()[Ljava/lang/Object;"⟩
abbrev cJx4a65c_size_8abf5 : ByteArray := prog_33_method_8_code
def yJx4a65c_size_8abf5 : MethodName := ⟨RJx4a65c, "size", "()I"⟩
abbrev cJx4a65c_elementData_915e3 : ByteArray := prog_33_method_18_code
def yJx4a65c_elementData_915e3 : MethodName := ⟨RJx4a65c, "elementData", "(I)Ljava/lang/Object;"⟩
abbrev cJx4a65c_get_915e3 : ByteArray := prog_33_method_20_code
def yJx4a65c_get_915e3 : MethodName := ⟨RJx4a65c, "get", "(I)Ljava/lang/Object;"⟩
abbrev cJx4a65c_add_72be8 : ByteArray := prog_33_method_24_code
def yJx4a65c_add_72be8 : MethodName := ⟨RJx4a65c, "add", "(Ljava/lang/Object;[Ljava/lang/Object;I)V"⟩
abbrev cJx4a65c_add_9ea2d : ByteArray := prog_33_method_25_code
def yJx4a65c_add_9ea2d : MethodName := ⟨RJx4a65c, "add", "(Ljava/lang/Object;)Z"⟩
abbrev cJx4a65c_remove_915e3 : ByteArray := prog_33_method_29_code
def yJx4a65c_remove_915e3 : MethodName := ⟨RJx4a65c, "remove", "(I)Ljava/lang/Object;"⟩
abbrev cJx4a65c_fastRemove_b59b0 : ByteArray := prog_33_method_39_code
def yJx4a65c_fastRemove_b59b0 : MethodName := ⟨RJx4a65c, "fastRemove", "([Ljava/lang/Object;I)V"⟩
abbrev cJx4a65c_clear_da8c8 : ByteArray := prog_33_method_40_code
def yJx4a65c_clear_da8c8 : MethodName := ⟨RJx4a65c, "clear", "()V"⟩
def RJ7 : String := "java/util/Arrays"
def TJ7 : u_T := fun k => match k with
  | _ => ("", "", "", false)
def tyJ7 : Nat → FieldType := fun k => match k with
  | _ => .int
theorem nmJ7 : ∀ a, a < 0 → ∀ b, b < 0 → a ≠ b → (TJ7 a).2.1 ≠ (TJ7 b).2.1 := by decide +kernel
theorem tyJ7_ok : ∀ k, k < 0 → parseFieldDescriptor (TJ7 k).2.2.1 = some (tyJ7 k) := by decide +kernel
abbrev cJ7_fill_d0a16 : ByteArray := prog_34_method_101_code
def yJ7_fill_d0a16 : MethodName := ⟨RJ7, "fill", "([JJ)V"⟩
abbrev cJ7_fill_53178 : ByteArray := prog_34_method_103_code
def yJ7_fill_53178 : MethodName := ⟨RJ7, "fill", "([II)V"⟩
abbrev cJ7_copyOf_1904c : ByteArray := prog_34_method_119_code
def yJ7_copyOf_1904c : MethodName := ⟨RJ7, "copyOf", "([Ljava/lang/Object;I)[Ljava/lang/Object;"⟩
abbrev cJ7_copyOf_6403c : ByteArray := prog_34_method_120_code
def yJ7_copyOf_6403c : MethodName := ⟨RJ7, "copyOf", "([Ljava/lang/Object;ILjava/lang/Class;)[Ljava/lang/Object;"⟩
abbrev cJ7_copyOf_9075b : ByteArray := prog_34_method_121_code
def yJ7_copyOf_9075b : MethodName := ⟨RJ7, "copyOf", "([BI)[B"⟩
abbrev cJ7_checkLength_df160 : ByteArray := prog_34_method_131_code
def yJ7_checkLength_df160 : MethodName := ⟨RJ7, "checkLength", "(II)V"⟩
abbrev cJ7_copyOfRange_39247 : ByteArray := prog_34_method_132_code
def yJ7_copyOfRange_39247 : MethodName := ⟨RJ7, "copyOfRange", "([BII)[B"⟩
abbrev cJ7_copyOfRangeByte_39247 : ByteArray := prog_34_method_133_code
def yJ7_copyOfRangeByte_39247 : MethodName := ⟨RJ7, "copyOfRangeByte", "([BII)[B"⟩
def RJx5ef63 : String := "java/util/Collection"
def TJx5ef63 : u_T := fun k => match k with
  | _ => ("", "", "", false)
def tyJx5ef63 : Nat → FieldType := fun k => match k with
  | _ => .int
theorem nmJx5ef63 : ∀ a, a < 0 → ∀ b, b < 0 → a ≠ b → (TJx5ef63 a).2.1 ≠ (TJx5ef63 b).2.1 := by decide +kernel
theorem tyJx5ef63_ok : ∀ k, k < 0 → parseFieldDescriptor (TJx5ef63 k).2.2.1 = some (tyJx5ef63 k) := by decide +kernel
def RJxbd725 : String := "java/util/List"
def TJxbd725 : u_T := fun k => match k with
  | _ => ("", "", "", false)
def tyJxbd725 : Nat → FieldType := fun k => match k with
  | _ => .int
theorem nmJxbd725 : ∀ a, a < 0 → ∀ b, b < 0 → a ≠ b → (TJxbd725 a).2.1 ≠ (TJxbd725 b).2.1 := by decide +kernel
theorem tyJxbd725_ok : ∀ k, k < 0 → parseFieldDescriptor (TJxbd725 k).2.2.1 = some (tyJxbd725 k) := by decide +kernel
def RJ15 : String := "java/util/Objects"
def TJ15 : u_T := fun k => match k with
  | _ => ("", "", "", false)
def tyJ15 : Nat → FieldType := fun k => match k with
  | _ => .int
theorem nmJ15 : ∀ a, a < 0 → ∀ b, b < 0 → a ≠ b → (TJ15 a).2.1 ≠ (TJ15 b).2.1 := by decide +kernel
theorem tyJ15_ok : ∀ k, k < 0 → parseFieldDescriptor (TJ15 k).2.2.1 = some (tyJ15 k) := by decide +kernel
abbrev cJ15_checkIndex_7cf53 : ByteArray := prog_37_method_17_code
def yJ15_checkIndex_7cf53 : MethodName := ⟨RJ15, "checkIndex", "(II)I"⟩
def RJxf0a74 : String := "java/util/RandomAccess"
def TJxf0a74 : u_T := fun k => match k with
  | _ => ("", "", "", false)
def tyJxf0a74 : Nat → FieldType := fun k => match k with
  | _ => .int
theorem nmJxf0a74 : ∀ a, a < 0 → ∀ b, b < 0 → a ≠ b → (TJxf0a74 a).2.1 ≠ (TJxf0a74 b).2.1 := by decide +kernel
theorem tyJxf0a74_ok : ∀ k, k < 0 → parseFieldDescriptor (TJxf0a74 k).2.2.1 = some (tyJxf0a74 k) := by decide +kernel
def RJxa66e6 : String := "java/util/SequencedCollection"
def TJxa66e6 : u_T := fun k => match k with
  | _ => ("", "", "", false)
def tyJxa66e6 : Nat → FieldType := fun k => match k with
  | _ => .int
theorem nmJxa66e6 : ∀ a, a < 0 → ∀ b, b < 0 → a ≠ b → (TJxa66e6 a).2.1 ≠ (TJxa66e6 b).2.1 := by decide +kernel
theorem tyJxa66e6_ok : ∀ k, k < 0 → parseFieldDescriptor (TJxa66e6 k).2.2.1 = some (tyJxa66e6 k) := by decide +kernel
def RJ8 : String := "jdk/internal/util/ArraysSupport"
def TJ8 : u_T := fun k => match k with
  | _ => ("", "", "", false)
def tyJ8 : Nat → FieldType := fun k => match k with
  | _ => .int
theorem nmJ8 : ∀ a, a < 0 → ∀ b, b < 0 → a ≠ b → (TJ8 a).2.1 ≠ (TJ8 b).2.1 := by decide +kernel
theorem tyJ8_ok : ∀ k, k < 0 → parseFieldDescriptor (TJ8 k).2.2.1 = some (tyJ8 k) := by decide +kernel
abbrev cJ8_newLength_cabcc : ByteArray := prog_40_method_27_code
def yJ8_newLength_cabcc : MethodName := ⟨RJ8, "newLength", "(III)I"⟩
abbrev cJ8_hugeLength_7cf53 : ByteArray := prog_40_method_28_code
def yJ8_hugeLength_7cf53 : MethodName := ⟨RJ8, "hugeLength", "(II)I"⟩
def RJ3 : String := "jdk/internal/util/Preconditions"
def TJ3 : u_T := fun k => match k with
  | _ => ("", "", "", false)
def tyJ3 : Nat → FieldType := fun k => match k with
  | _ => .int
theorem nmJ3 : ∀ a, a < 0 → ∀ b, b < 0 → a ≠ b → (TJ3 a).2.1 ≠ (TJ3 b).2.1 := by decide +kernel
theorem tyJ3_ok : ∀ k, k < 0 → parseFieldDescriptor (TJ3 k).2.2.1 = some (tyJ3 k) := by decide +kernel
abbrev cJ3_checkIndex_8e157 : ByteArray := prog_41_method_11_code
def yJ3_checkIndex_8e157 : MethodName := ⟨RJ3, "checkIndex", "(IILjava/util/function/BiFunction;)I"⟩
abbrev cJ3_checkFromToIndex_8c36e : ByteArray := prog_41_method_12_code
def yJ3_checkFromToIndex_8c36e : MethodName := ⟨RJ3, "checkFromToIndex", "(IIILjava/util/function/BiFunction;)I"⟩
abbrev cJ3_checkFromIndexSize_8c36e : ByteArray := prog_41_method_13_code
def yJ3_checkFromIndexSize_8c36e : MethodName := ⟨RJ3, "checkFromIndexSize", "(IIILjava/util/function/BiFunction;)I"⟩
def RL : String := "CovenanterLaw"
abbrev cL_amount : ByteArray := method_3_code
def yL_amount : MethodName := ⟨RL, "amount", "(LCovenanter;III[J)I"⟩
abbrev cL_account : ByteArray := method_4_code
def yL_account : MethodName := ⟨RL, "account", "(LCovenanter;I[J)I"⟩
abbrev cL_number : ByteArray := method_5_code
def yL_number : MethodName := ⟨RL, "number", "(LCovenanter;I[J)I"⟩
abbrev cL_term : ByteArray := method_6_code
def yL_term : MethodName := ⟨RL, "term", "(LCovenanter;I[J)I"⟩
abbrev cL_join : ByteArray := method_7_code
def yL_join : MethodName := ⟨RL, "join", "(LCovenanter;I[J)I"⟩
abbrev cL_share : ByteArray := method_8_code
def yL_share : MethodName := ⟨RL, "share", "(LCovenanter;I[J)I"⟩
abbrev cL_year : ByteArray := method_9_code
def yL_year : MethodName := ⟨RL, "year", "(LCovenanter;[J)I"⟩
abbrev cL_define : ByteArray := method_10_code
def yL_define : MethodName := ⟨RL, "define", "(LCovenanter;[J)I"⟩
abbrev cL_amend : ByteArray := method_11_code
def yL_amend : MethodName := ⟨RL, "amend", "(LCovenanter;II[J)I"⟩
abbrev cL_level : ByteArray := method_12_code
def yL_level : MethodName := ⟨RL, "level", "(LCovenanter;I[J)I"⟩
abbrev cL_value : ByteArray := method_13_code
def yL_value : MethodName := ⟨RL, "value", "(LCovenanter;II[J)I"⟩
abbrev cL_textLength : ByteArray := method_14_code
def yL_textLength : MethodName := ⟨RL, "textLength", "(LCovenanter;II[J)I"⟩
abbrev cL_textChar : ByteArray := method_15_code
def yL_textChar : MethodName := ⟨RL, "textChar", "(LCovenanter;III[J)I"⟩
abbrev cL_test : ByteArray := method_16_code
def yL_test : MethodName := ⟨RL, "test", "(LCovenanter;II[J)I"⟩
abbrev cL_limit : ByteArray := method_17_code
def yL_limit : MethodName := ⟨RL, "limit", "(LCovenanter;III[J)I"⟩
abbrev cL_wake : ByteArray := method_18_code
def yL_wake : MethodName := ⟨RL, "wake", "(LCovenanter;III[J)I"⟩
abbrev cL_cure : ByteArray := method_19_code
def yL_cure : MethodName := ⟨RL, "cure", "(LCovenanter;III[J)I"⟩
abbrev cL_waive : ByteArray := method_20_code
def yL_waive : MethodName := ⟨RL, "waive", "(LCovenanter;II[J)I"⟩
abbrev cL_state : ByteArray := method_21_code
def yL_state : MethodName := ⟨RL, "state", "(LCovenanter;II[J)I"⟩
abbrev cL_room : ByteArray := method_22_code
def yL_room : MethodName := ⟨RL, "room", "(LCovenanter;II[J)I"⟩
abbrev cL_basket : ByteArray := method_23_code
def yL_basket : MethodName := ⟨RL, "basket", "(LCovenanter;III[J)I"⟩
abbrev cL_size : ByteArray := method_24_code
def yL_size : MethodName := ⟨RL, "size", "(LCovenanter;II[J)I"⟩
abbrev cL_use : ByteArray := method_25_code
def yL_use : MethodName := ⟨RL, "use", "(LCovenanter;III[J)I"⟩
abbrev cL_refill : ByteArray := method_26_code
def yL_refill : MethodName := ⟨RL, "refill", "(LCovenanter;II[J)I"⟩
abbrev cL_law : ByteArray := code
def yL_law : MethodName := ⟨RL, "law", "([I)Z"⟩
abbrev vwCl : List vw_C := [(RJ0, TJ0, 4), (RJ4, TJ4, 4), (RJx4a65c, TJx4a65c, 3), (RX0, TX0, 4), (RX1, TX1, 8), (RX2, TX2, 9), (RX3, TX3, 4), (RX4, TX4, 5), (RX5, TX5, 30)]

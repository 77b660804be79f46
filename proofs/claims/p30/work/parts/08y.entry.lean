/-! THE LAW's entry: what the start gives -/
abbrev zNar : List Cond := flatC (Jvm.Cond.and given_1 narrow_1)
abbrev tS (k : Nat) : Term := .string "Covenanter" k
abbrev tV (k : Nat) : Term := .field (tS k) "java/lang/String" "value" "[B"
abbrev tD (n : String) : Term := .static "java/lang/Integer" n "[B"
def adr (v : Option Value) : Nat := match v with | some (.ref a) => a | _ => 0
theorem adr_of {v : Option Value} {a : Nat} (h : v = some (.ref a)) : adr v = a := by rw [h]; rfl
theorem mem_dt {L E : List Cond} {i n : Nat} (h : (L.drop i).take n = E) : ∀ w ∈ E, w ∈ L := fun w hw => List.mem_of_mem_drop (List.mem_of_mem_take (by rw [h]; exact hw))
abbrev sWd (k : Nat) (t : List Nat) : List Cond := [.exactly (tS k) "java/lang/String", .eq (.field (tS k) "java/lang/String" "coder" "B") (.int 0), .arrayOf (tV k) .byte, .eq (.length (tV k)) (.int (Int32.ofNat t.length))] ++ (List.range t.length).map (fun j => Cond.eq (.elem (tV k) (.int (Int32.ofNat j))) (.int (nI (t.getD j 0))))
theorem nf_ones : (zNar.drop 18).take 100 = (List.range 100).map (fun j => Cond.eq (.elem (tD "DigitOnes") (.int (Int32.ofNat j))) (.int (nI (48 + j % 10)))) := by decide +kernel
theorem nf_tens : (zNar.drop 121).take 100 = (List.range 100).map (fun j => Cond.eq (.elem (tD "DigitTens") (.int (Int32.ofNat j))) (.int (nI (48 + j / 10)))) := by decide +kernel
theorem nf_s71 : (zNar.drop 367).take 5 = sWd 71 [65] := by decide +kernel
theorem nf_s92 : (zNar.drop 413).take 4 = sWd 92 [] := by decide +kernel
theorem nf_s111 : (zNar.drop 490).take 5 = sWd 111 [84] := by decide +kernel
theorem nf_s173 : (zNar.drop 567).take 7 = sWd 173 [109, 105, 110] := by decide +kernel
theorem nf_s175 : (zNar.drop 574).take 7 = sWd 175 [109, 97, 120] := by decide +kernel
theorem nf_s180 : (zNar.drop 581).take 7 = sWd 180 [32, 43, 32] := by decide +kernel
theorem nf_s182 : (zNar.drop 588).take 7 = sWd 182 [32, 45, 32] := by decide +kernel
theorem nf_s184 : (zNar.drop 595).take 6 = sWd 184 [44, 32] := by decide +kernel
theorem nf_s186 : (zNar.drop 683).take 9 = sWd 186 [37, 32, 111, 102, 32] := by decide +kernel
theorem nf_s188 : (zNar.drop 692).take 9 = sWd 188 [121, 101, 97, 114, 40] := by decide +kernel
section
variable {s : State} {b : Nat}
theorem str_of {A : Nat → Prop} {k : Nat} {t : List Nat} (hl : t.length < 2 ^ 31) (h : ∀ w ∈ sWd k t, w.before #[Value.ref b] s = true) (hA : ∀ a : Nat, a < s.heap.size → ¬ A a) : va_O "java/lang/String" (adr ((tS k).eval #[Value.ref b] s none [] s)) A s s.heap ∧ va_OF "java/lang/String" "coder" "B" (.int 0) (adr ((tS k).eval #[Value.ref b] s none [] s)) A s s.heap ∧ va_OF "java/lang/String" "value" "[B" (.ref (adr ((tV k).eval #[Value.ref b] s none [] s))) (adr ((tS k).eval #[Value.ref b] s none [] s)) A s s.heap ∧ va_T .byte (adr ((tV k).eval #[Value.ref b] s none [] s)) t.length (fun j => .int (nI (t.getD j 0))) A s s.heap := by
  have h1 := h _ List.mem_cons_self
  have h2 := h _ (List.mem_cons_of_mem _ List.mem_cons_self)
  have h3 := h _ (List.mem_cons_of_mem _ (List.mem_cons_of_mem _ List.mem_cons_self))
  have h4 := h _ (List.mem_cons_of_mem _ (List.mem_cons_of_mem _ (List.mem_cons_of_mem _ List.mem_cons_self)))
  obtain ⟨a, c, cA, kA, q1, -⟩ := Cond.exactly_spec (args := #[Value.ref b]) (first := s) (o := none) (s := s) (idx := []) (t := tS k) (cls := "java/lang/String") h1
  obtain ⟨v, hv, hT⟩ := va_Tof (f := fun j => .int (nI (t.getD j 0))) (A := A) hl h3 (va_eqt h4) (fun j hj => va_eqt (h _ (List.mem_append_right _ (List.mem_map.mpr ⟨j, List.mem_range.mpr hj, rfl⟩)))) hA
  rw [adr_of q1, adr_of hv]
  exact ⟨va_Oof h1 q1 hA, vk_OFof q1 (va_eqt h2) hA, vk_OFof q1 hv hA, hT⟩
theorem vkR_of {k : Nat} {tx : String} (h1 : (Cond.stringRef "Covenanter" k tx).before #[Value.ref b] s = true) (h2 : (Cond.exactly (tS k) "java/lang/String").before #[Value.ref b] s = true) : vk_R RX4 k tx (adr ((tS k).eval #[Value.ref b] s none [] s)) s := by
  obtain ⟨a, c, cA, kA, q1, -⟩ := Cond.exactly_spec (args := #[Value.ref b]) (first := s) (o := none) (s := s) (idx := []) (t := tS k) (cls := "java/lang/String") h2
  rw [adr_of q1]
  exact vk_R.of h1 q1
theorem ty_obj {n : String} {args : Array Value} (h : (Cond.arrayOver (.object n)).before args s = true) : ∃ ca, ArrOfT s ca (.object n) ∧ va_RA s ca (.object n) := by
  obtain ⟨comp, c, k, h1, -, h3, h4, h5⟩ := Cond.arrayOver_spec h
  exact ⟨c, fun n z => ⟨fun k h => (by cases h), k, h3, comp, h4⟩, k, comp, h3, h4, h1, h5⟩
theorem ty_arr {args : Array Value} (h : (Cond.arrayOver (.array .long)).before args s = true) : ∃ ca, ArrOfT s ca (.array .long) ∧ va_RA s ca (.array .long) := by
  obtain ⟨comp, c, k, h1, h3, h4, h5⟩ := Cond.arrayOver_specA h
  exact ⟨c, fun n z => ⟨fun k h => (by cases h), k, h3, comp, h4⟩, h5⟩
theorem ty_int {args : Array Value} (h : (Cond.arrayClass .int).before args s = true) : ∃ ca, ArrOfT s ca .int ∧ va_RA s ca .int := by
  obtain ⟨c, k, comp, h1, h2, h3⟩ := Cond.arrayClass_spec h
  exact ⟨c, fun n z => ⟨fun k h => (by cases h), k, h2, comp, h3⟩, h1⟩
theorem ty_long {args : Array Value} (h : (Cond.arrayClass .long).before args s = true) : ∃ ca, ArrOfT s ca .long ∧ va_RA s ca .long := by
  obtain ⟨c, k, comp, h1, h2, h3⟩ := Cond.arrayClass_spec h
  exact ⟨c, fun n z => ⟨fun k h => (by cases h), k, h2, comp, h3⟩, h1⟩
theorem ty_byte {args : Array Value} (h : (Cond.arrayClass .byte).before args s = true) : ∃ ca, ArrOfT s ca .byte ∧ va_RA s ca .byte := by
  obtain ⟨c, k, comp, h1, h2, h3⟩ := Cond.arrayClass_spec h
  exact ⟨c, fun n z => ⟨fun k h => (by cases h), k, h2, comp, h3⟩, h1⟩
theorem ty_boolean {args : Array Value} (h : (Cond.arrayClass .boolean).before args s = true) : ∃ ca, ArrOfT s ca .boolean ∧ va_RA s ca .boolean := by
  obtain ⟨c, k, comp, h1, h2, h3⟩ := Cond.arrayClass_spec h
  exact ⟨c, fun n z => ⟨fun k h => (by cases h), k, h2, comp, h3⟩, h1⟩
end
set_option maxRecDepth 100000 in
set_option maxHeartbeats 4000000 in
theorem start_G {s : State} {b : Nat} (ht : ∀ w ∈ lw_tbl, w.before #[Value.ref b] s = true) (hn : ∀ w ∈ zNar, w.before #[Value.ref b] s = true) : ∃ G : zG, gN G = s.heap.size ∧ zK G s ∧ zZ G s s.heap ∧ zNc s := by
  have hz : ∀ w ∈ zT, w.before #[Value.ref b] s = true := fun w hw => ht w (List.mem_filter.mp hw).1
  obtain ⟨c0, i0, u0⟩ := u_known (n := 4) hz in_J0 (ht _ (List.mem_of_getElem? (i := 451) (by decide +kernel)))
  obtain ⟨c1, i1, u1⟩ := u_known (n := 4) hz in_J4 (ht _ (List.mem_of_getElem? (i := 271) (by decide +kernel)))
  obtain ⟨c2, i2, u2⟩ := u_known (n := 3) hz in_Jx4a65c (ht _ (List.mem_of_getElem? (i := 51) (by decide +kernel)))
  obtain ⟨c3, i3, u3⟩ := u_known (n := 4) hz in_X0 (ht _ (List.mem_of_getElem? (i := 820) (by decide +kernel)))
  obtain ⟨c4, i4, u4⟩ := u_known (n := 8) hz in_X1 (ht _ (List.mem_of_getElem? (i := 265) (by decide +kernel)))
  obtain ⟨c5, i5, u5⟩ := u_known (n := 9) hz in_X2 (ht _ (List.mem_of_getElem? (i := 737) (by decide +kernel)))
  obtain ⟨c6, i6, u6⟩ := u_known (n := 4) hz in_X3 (ht _ (List.mem_of_getElem? (i := 698) (by decide +kernel)))
  obtain ⟨c7, i7, u7⟩ := u_known (n := 5) hz in_X4 (ht _ (List.mem_of_getElem? (i := 41) (by decide +kernel)))
  obtain ⟨t0, y0⟩ := ty_int (ht _ (List.mem_of_getElem? (i := 779) (by decide +kernel)))
  obtain ⟨t1, y1⟩ := ty_long (ht _ (List.mem_of_getElem? (i := 76) (by decide +kernel)))
  obtain ⟨t2, y2⟩ := ty_byte (ht _ (List.mem_of_getElem? (i := 170) (by decide +kernel)))
  obtain ⟨t3, y3⟩ := ty_int (ht _ (List.mem_of_getElem? (i := 779) (by decide +kernel)))
  obtain ⟨t4, y4⟩ := ty_boolean (ht _ (List.mem_of_getElem? (i := 780) (by decide +kernel)))
  obtain ⟨t5, y5⟩ := ty_obj (n := "java/lang/Object") (ht _ (List.mem_of_getElem? (i := 595) (by decide +kernel)))
  obtain ⟨t6, y6⟩ := ty_obj (n := "Covenanter$Formula") (ht _ (List.mem_of_getElem? (i := 704) (by decide +kernel)))
  obtain ⟨t7, y7⟩ := ty_arr (ht _ (List.mem_of_getElem? (i := 49) (by decide +kernel)))
  have hA : ∀ a : Nat, a < s.heap.size → ¬ s.heap.size ≤ a := fun a h => Nat.not_le.mpr h
  obtain ⟨d0, e0, T0⟩ := va_Tof (tm := .static "java/util/ArrayList" "DEFAULTCAPACITY_EMPTY_ELEMENTDATA" "[Ljava/lang/Object;") (ty := .object "java/lang/Object") (N := 0) (f := fun _ => .null) (A := fun q => s.heap.size ≤ q) (by decide) (hn _ (List.mem_of_getElem? (i := 5) (by decide +kernel))) (va_eqt (hn _ (List.mem_of_getElem? (i := 7) (by decide +kernel)))) (fun j hj => absurd hj (Nat.not_lt_zero _)) hA
  obtain ⟨d1, e1, T1⟩ := va_Tof (tm := tD "DigitOnes") (ty := .byte) (N := 100) (f := fun j => .int (nI (48 + j % 10))) (A := fun q => s.heap.size ≤ q) (by decide) (hn _ (List.mem_of_getElem? (i := 16) (by decide +kernel))) (va_eqt (hn _ (List.mem_of_getElem? (i := 17) (by decide +kernel)))) (fun j hj => va_eqt (hn _ (mem_dt nf_ones _ (List.mem_map.mpr ⟨j, List.mem_range.mpr hj, rfl⟩)))) hA
  obtain ⟨d2, e2, T2⟩ := va_Tof (tm := tD "DigitTens") (ty := .byte) (N := 100) (f := fun j => .int (nI (48 + j / 10))) (A := fun q => s.heap.size ≤ q) (by decide) (hn _ (List.mem_of_getElem? (i := 119) (by decide +kernel))) (va_eqt (hn _ (List.mem_of_getElem? (i := 120) (by decide +kernel)))) (fun j hj => va_eqt (hn _ (mem_dt nf_tens _ (List.mem_map.mpr ⟨j, List.mem_range.mpr hj, rfl⟩)))) hA
  refine ⟨((fun k => match k with | 0 => c0 | 1 => c1 | 2 => c2 | 3 => c3 | 4 => c4 | 5 => c5 | 6 => c6 | _ => c7, fun k => match k with | 0 => i0 | 1 => i1 | 2 => i2 | 3 => i3 | 4 => i4 | 5 => i5 | 6 => i6 | _ => i7), (fun k => match k with | 0 => t0 | 1 => t1 | 2 => t2 | 3 => t3 | 4 => t4 | 5 => t5 | 6 => t6 | _ => t7), s.heap.size, (fun k => if k = 0 then d0 else if k = 1 then d1 else if k = 2 then d2 else adr ((tS k).eval #[Value.ref b] s none [] s)), (fun k => adr ((tV k).eval #[Value.ref b] s none [] s))), rfl, ⟨⟨fun k q hq => ?_, fun k q hq => ?_⟩, ?_⟩, ⟨⟨?_, ?_, T0, ?_, T1, ?_, T2⟩, ⟨?_, ?_, ?_⟩, ?_⟩, ⟨?_, ?_, ?_, ?_⟩⟩
  · match k, hq with
    | 0, hq => cases hq; exact u0
    | 1, hq => cases hq; exact u1
    | 2, hq => cases hq; exact u2
    | 3, hq => cases hq; exact u3
    | 4, hq => cases hq; exact u4
    | 5, hq => cases hq; exact u5
    | 6, hq => cases hq; exact u6
    | 7, hq => cases hq; exact u7
    | n + 8, hq => cases hq
  · match k, hq with
    | 0, hq => cases hq; exact y0
    | 1, hq => cases hq; exact y1
    | 2, hq => cases hq; exact y2
    | 3, hq => cases hq; exact y3
    | 4, hq => cases hq; exact y4
    | 5, hq => cases hq; exact y5
    | 6, hq => cases hq; exact y6
    | 7, hq => cases hq; exact y7
    | n + 8, hq => cases hq
  · exact (List.forall_mem_cons.mpr ⟨vkR_of (ht _ (List.mem_of_getElem? (i := 144) (by decide +kernel))) (hn _ (List.mem_of_getElem? (i := 263) (by decide +kernel))), (List.forall_mem_cons.mpr ⟨vkR_of (ht _ (List.mem_of_getElem? (i := 185) (by decide +kernel))) (hn _ (List.mem_of_getElem? (i := 293) (by decide +kernel))), (List.forall_mem_cons.mpr ⟨vkR_of (ht _ (List.mem_of_getElem? (i := 247) (by decide +kernel))) (hn _ (List.mem_of_getElem? (i := 327) (by decide +kernel))), (List.forall_mem_cons.mpr ⟨vkR_of (ht _ (List.mem_of_getElem? (i := 257) (by decide +kernel))) (hn _ (List.mem_of_getElem? (i := 346) (by decide +kernel))), (List.forall_mem_cons.mpr ⟨vkR_of (ht _ (List.mem_of_getElem? (i := 266) (by decide +kernel))) (hn _ (List.mem_of_getElem? (i := 367) (by decide +kernel))), (List.forall_mem_cons.mpr ⟨vkR_of (ht _ (List.mem_of_getElem? (i := 603) (by decide +kernel))) (hn _ (List.mem_of_getElem? (i := 379) (by decide +kernel))), (List.forall_mem_cons.mpr ⟨vkR_of (ht _ (List.mem_of_getElem? (i := 607) (by decide +kernel))) (hn _ (List.mem_of_getElem? (i := 413) (by decide +kernel))), (List.forall_mem_cons.mpr ⟨vkR_of (ht _ (List.mem_of_getElem? (i := 616) (by decide +kernel))) (hn _ (List.mem_of_getElem? (i := 417) (by decide +kernel))), (List.forall_mem_cons.mpr ⟨vkR_of (ht _ (List.mem_of_getElem? (i := 617) (by decide +kernel))) (hn _ (List.mem_of_getElem? (i := 433) (by decide +kernel))), (List.forall_mem_cons.mpr ⟨vkR_of (ht _ (List.mem_of_getElem? (i := 618) (by decide +kernel))) (hn _ (List.mem_of_getElem? (i := 490) (by decide +kernel))), (List.forall_mem_cons.mpr ⟨vkR_of (ht _ (List.mem_of_getElem? (i := 623) (by decide +kernel))) (hn _ (List.mem_of_getElem? (i := 495) (by decide +kernel))), (List.forall_mem_cons.mpr ⟨vkR_of (ht _ (List.mem_of_getElem? (i := 627) (by decide +kernel))) (hn _ (List.mem_of_getElem? (i := 511) (by decide +kernel))), (List.forall_mem_cons.mpr ⟨vkR_of (ht _ (List.mem_of_getElem? (i := 640) (by decide +kernel))) (hn _ (List.mem_of_getElem? (i := 567) (by decide +kernel))), (List.forall_mem_cons.mpr ⟨vkR_of (ht _ (List.mem_of_getElem? (i := 641) (by decide +kernel))) (hn _ (List.mem_of_getElem? (i := 574) (by decide +kernel))), (List.forall_mem_cons.mpr ⟨vkR_of (ht _ (List.mem_of_getElem? (i := 662) (by decide +kernel))) (hn _ (List.mem_of_getElem? (i := 581) (by decide +kernel))), (List.forall_mem_cons.mpr ⟨vkR_of (ht _ (List.mem_of_getElem? (i := 663) (by decide +kernel))) (hn _ (List.mem_of_getElem? (i := 588) (by decide +kernel))), (List.forall_mem_cons.mpr ⟨vkR_of (ht _ (List.mem_of_getElem? (i := 664) (by decide +kernel))) (hn _ (List.mem_of_getElem? (i := 595) (by decide +kernel))), (List.forall_mem_cons.mpr ⟨vkR_of (ht _ (List.mem_of_getElem? (i := 679) (by decide +kernel))) (hn _ (List.mem_of_getElem? (i := 601) (by decide +kernel))), (List.forall_mem_cons.mpr ⟨vkR_of (ht _ (List.mem_of_getElem? (i := 680) (by decide +kernel))) (hn _ (List.mem_of_getElem? (i := 640) (by decide +kernel))), (List.forall_mem_cons.mpr ⟨vkR_of (ht _ (List.mem_of_getElem? (i := 684) (by decide +kernel))) (hn _ (List.mem_of_getElem? (i := 683) (by decide +kernel))), (List.forall_mem_cons.mpr ⟨vkR_of (ht _ (List.mem_of_getElem? (i := 692) (by decide +kernel))) (hn _ (List.mem_of_getElem? (i := 692) (by decide +kernel))), (List.forall_mem_cons.mpr ⟨vkR_of (ht _ (List.mem_of_getElem? (i := 697) (by decide +kernel))) (hn _ (List.mem_of_getElem? (i := 701) (by decide +kernel))), (List.forall_mem_cons.mpr ⟨vkR_of (ht _ (List.mem_of_getElem? (i := 726) (by decide +kernel))) (hn _ (List.mem_of_getElem? (i := 734) (by decide +kernel))), (List.forall_mem_cons.mpr ⟨vkR_of (ht _ (List.mem_of_getElem? (i := 730) (by decide +kernel))) (hn _ (List.mem_of_getElem? (i := 761) (by decide +kernel))), (List.forall_mem_cons.mpr ⟨vkR_of (ht _ (List.mem_of_getElem? (i := 930) (by decide +kernel))) (hn _ (List.mem_of_getElem? (i := 1260) (by decide +kernel))), (List.forall_mem_cons.mpr ⟨vkR_of (ht _ (List.mem_of_getElem? (i := 735) (by decide +kernel))) (hn _ (List.mem_of_getElem? (i := 808) (by decide +kernel))), (List.forall_mem_cons.mpr ⟨vkR_of (ht _ (List.mem_of_getElem? (i := 789) (by decide +kernel))) (hn _ (List.mem_of_getElem? (i := 826) (by decide +kernel))), (List.forall_mem_cons.mpr ⟨vkR_of (ht _ (List.mem_of_getElem? (i := 790) (by decide +kernel))) (hn _ (List.mem_of_getElem? (i := 853) (by decide +kernel))), (List.forall_mem_cons.mpr ⟨vkR_of (ht _ (List.mem_of_getElem? (i := 795) (by decide +kernel))) (hn _ (List.mem_of_getElem? (i := 886) (by decide +kernel))), (List.forall_mem_cons.mpr ⟨vkR_of (ht _ (List.mem_of_getElem? (i := 796) (by decide +kernel))) (hn _ (List.mem_of_getElem? (i := 913) (by decide +kernel))), (List.forall_mem_cons.mpr ⟨vkR_of (ht _ (List.mem_of_getElem? (i := 801) (by decide +kernel))) (hn _ (List.mem_of_getElem? (i := 953) (by decide +kernel))), (List.forall_mem_cons.mpr ⟨vkR_of (ht _ (List.mem_of_getElem? (i := 808) (by decide +kernel))) (hn _ (List.mem_of_getElem? (i := 986) (by decide +kernel))), (List.forall_mem_cons.mpr ⟨vkR_of (ht _ (List.mem_of_getElem? (i := 917) (by decide +kernel))) (hn _ (List.mem_of_getElem? (i := 1215) (by decide +kernel))), (List.forall_mem_cons.mpr ⟨vkR_of (ht _ (List.mem_of_getElem? (i := 817) (by decide +kernel))) (hn _ (List.mem_of_getElem? (i := 1034) (by decide +kernel))), (List.forall_mem_cons.mpr ⟨vkR_of (ht _ (List.mem_of_getElem? (i := 818) (by decide +kernel))) (hn _ (List.mem_of_getElem? (i := 1087) (by decide +kernel))), (List.forall_mem_cons.mpr ⟨vkR_of (ht _ (List.mem_of_getElem? (i := 849) (by decide +kernel))) (hn _ (List.mem_of_getElem? (i := 1107) (by decide +kernel))), (List.forall_mem_cons.mpr ⟨vkR_of (ht _ (List.mem_of_getElem? (i := 857) (by decide +kernel))) (hn _ (List.mem_of_getElem? (i := 1136) (by decide +kernel))), (List.forall_mem_cons.mpr ⟨vkR_of (ht _ (List.mem_of_getElem? (i := 862) (by decide +kernel))) (hn _ (List.mem_of_getElem? (i := 1167) (by decide +kernel))), (List.forall_mem_cons.mpr ⟨vkR_of (ht _ (List.mem_of_getElem? (i := 863) (by decide +kernel))) (hn _ (List.mem_of_getElem? (i := 1185) (by decide +kernel))), (fun q hq => absurd hq List.not_mem_nil)⟩)⟩)⟩)⟩)⟩)⟩)⟩)⟩)⟩)⟩)⟩)⟩)⟩)⟩)⟩)⟩)⟩)⟩)⟩)⟩)⟩)⟩)⟩)⟩)⟩)⟩)⟩)⟩)⟩)⟩)⟩)⟩)⟩)⟩)⟩)⟩)⟩)⟩)⟩)
  · exact va_Zof (ht _ (List.mem_of_getElem? (i := 280) (by decide +kernel))) (ht _ (List.mem_of_getElem? (i := 29) (by decide +kernel))) (va_eqi (hn _ (List.mem_of_getElem? (i := 10) (by decide +kernel)))) hA
  · exact va_Zof (ht _ (List.mem_of_getElem? (i := 63) (by decide +kernel))) (ht _ (List.mem_of_getElem? (i := 16) (by decide +kernel))) e0 hA
  · exact va_Zof (ht _ (List.mem_of_getElem? (i := 435) (by decide +kernel))) (ht _ (List.mem_of_getElem? (i := 36) (by decide +kernel))) e1 hA
  · exact va_Zof (ht _ (List.mem_of_getElem? (i := 437) (by decide +kernel))) (ht _ (List.mem_of_getElem? (i := 36) (by decide +kernel))) e2 hA
  · exact va_Zqof (ht _ (List.mem_of_getElem? (i := 365) (by decide +kernel))) (ht _ (List.mem_of_getElem? (i := 23) (by decide +kernel))) (hn _ (List.mem_of_getElem? (i := 11) (by decide +kernel))) hA
  · exact vx_Zqof (ht _ (List.mem_of_getElem? (i := 130) (by decide +kernel))) (ht _ (List.mem_of_getElem? (i := 17) (by decide +kernel))) (hn _ (List.mem_of_getElem? (i := 8) (by decide +kernel))) hA
  · exact vx_Zqof (ht _ (List.mem_of_getElem? (i := 132) (by decide +kernel))) (ht _ (List.mem_of_getElem? (i := 17) (by decide +kernel))) (hn _ (List.mem_of_getElem? (i := 9) (by decide +kernel))) hA
  · exact (List.forall_mem_cons.mpr ⟨str_of (k := 71) (t := [65]) (by decide) (fun w hw => hn w (mem_dt nf_s71 w hw)) hA, (List.forall_mem_cons.mpr ⟨str_of (k := 92) (t := []) (by decide) (fun w hw => hn w (mem_dt nf_s92 w hw)) hA, (List.forall_mem_cons.mpr ⟨str_of (k := 111) (t := [84]) (by decide) (fun w hw => hn w (mem_dt nf_s111 w hw)) hA, (List.forall_mem_cons.mpr ⟨str_of (k := 173) (t := [109, 105, 110]) (by decide) (fun w hw => hn w (mem_dt nf_s173 w hw)) hA, (List.forall_mem_cons.mpr ⟨str_of (k := 175) (t := [109, 97, 120]) (by decide) (fun w hw => hn w (mem_dt nf_s175 w hw)) hA, (List.forall_mem_cons.mpr ⟨str_of (k := 180) (t := [32, 43, 32]) (by decide) (fun w hw => hn w (mem_dt nf_s180 w hw)) hA, (List.forall_mem_cons.mpr ⟨str_of (k := 182) (t := [32, 45, 32]) (by decide) (fun w hw => hn w (mem_dt nf_s182 w hw)) hA, (List.forall_mem_cons.mpr ⟨str_of (k := 184) (t := [44, 32]) (by decide) (fun w hw => hn w (mem_dt nf_s184 w hw)) hA, (List.forall_mem_cons.mpr ⟨str_of (k := 186) (t := [37, 32, 111, 102, 32]) (by decide) (fun w hw => hn w (mem_dt nf_s186 w hw)) hA, (List.forall_mem_cons.mpr ⟨str_of (k := 188) (t := [121, 101, 97, 114, 40]) (by decide) (fun w hw => hn w (mem_dt nf_s188 w hw)) hA, (fun q hq => absurd hq List.not_mem_nil)⟩)⟩)⟩)⟩)⟩)⟩)⟩)⟩)⟩)⟩)
  · exact va_Nc.of (hn _ (List.mem_of_getElem? (i := 223) (by decide +kernel)))
  · exact va_Nc.of (hn _ (List.mem_of_getElem? (i := 224) (by decide +kernel)))
  · exact va_Nc.of (hn _ (List.mem_of_getElem? (i := 234) (by decide +kernel)))
  · exact va_Nc.of (hn _ (List.mem_of_getElem? (i := 233) (by decide +kernel)))

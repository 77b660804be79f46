/-! division by a hundred, downwards -/
def zfd (x : Int64) : Int64 := if x % 100 < 0 then x / 100 - 1 else x / 100
theorem zfd_div (x : Int64) : (x / 100).toInt = x.toInt.tdiv 100 := by
  have h1 := x.le_toInt; have h2 := x.toInt_lt
  rw [Int64.toInt_div, show (100 : Int64).toInt = 100 from rfl]
  apply Int.bmod_eq_of_le
  · have := Int.tdiv_eq_ediv (a := x.toInt) (b := 100); rw [show Int.sign 100 = 1 from rfl] at this; split at this <;> omega
  · have := Int.tdiv_eq_ediv (a := x.toInt) (b := 100); rw [show Int.sign 100 = 1 from rfl] at this; split at this <;> omega
theorem zfd_mul (x : Int64) : (x / 100 * 100).toInt = x.toInt.tdiv 100 * 100 := by
  have h1 := x.le_toInt; have h2 := x.toInt_lt
  rw [Int64.toInt_mul, zfd_div, show (100 : Int64).toInt = 100 from rfl]
  apply Int.bmod_eq_of_le
  · have := Int.tdiv_eq_ediv (a := x.toInt) (b := 100); rw [show Int.sign 100 = 1 from rfl] at this; split at this <;> omega
  · have := Int.tdiv_eq_ediv (a := x.toInt) (b := 100); rw [show Int.sign 100 = 1 from rfl] at this; split at this <;> omega
theorem zfd_mod (x : Int64) : (x % 100).toInt = x.toInt.tmod 100 := by
  rw [Int64.toInt_mod]; rfl
theorem zfd_eq (x : Int64) : x / 100 * 100 = x ↔ x.toInt.tmod 100 = 0 := by
  rw [← Int64.toInt_inj, zfd_mul]
  have := Int.mul_tdiv_add_tmod x.toInt 100
  omega
theorem zfd_neg (x : Int64) : x % 100 < 0 ↔ x.toInt < 0 ∧ ¬ x.toInt.tmod 100 = 0 := by
  rw [Int64.lt_iff_toInt_lt, zfd_mod, show (0 : Int64).toInt = 0 from rfl]
  have a := Int.tmod_eq_emod (a := x.toInt) (b := 100)
  split at a <;> omega
theorem zfd_xor (x : Int64) : x ^^^ 100 < 0 ↔ x.toInt < 0 := by
  rw [Int64.lt_iff_toInt_lt, show (0 : Int64).toInt = 0 from rfl]
  show (x.toBitVec ^^^ (100 : Int64).toBitVec).toInt < 0 ↔ x.toBitVec.toInt < 0
  have k : ∀ y : BitVec 64, y.toInt < 0 ↔ y.msb = true := fun y => by rw [BitVec.msb_eq_toInt]; simp
  rw [k, k, BitVec.msb_xor]
  rw [show ((100 : Int64).toBitVec).msb = false by decide]; simp
theorem zfd_1 {x : Int64} (h : 0 ≤ x ^^^ 100) : x / 100 = zfd x := by
  unfold zfd
  rw [if_neg]
  intro q
  have a := (zfd_neg x).mp q
  have b := (zfd_xor x).mpr a.1
  rw [Int64.lt_iff_toInt_lt] at b; rw [Int64.le_iff_toInt_le] at h; omega
theorem zfd_2 {x : Int64} (h : x / 100 * 100 = x) : x / 100 = zfd x := by
  unfold zfd
  rw [if_neg]
  intro q
  exact ((zfd_neg x).mp q).2 ((zfd_eq x).mp h)
theorem zfd_3 {x : Int64} (h1 : ¬ 0 ≤ x ^^^ 100) (h2 : ¬ x / 100 * 100 = x) : x / 100 - 1 = zfd x := by
  unfold zfd
  rw [if_pos]
  refine (zfd_neg x).mpr ⟨(zfd_xor x).mp ?_, fun q => h2 ((zfd_eq x).mpr q)⟩
  rw [Int64.le_iff_toInt_le] at h1; rw [Int64.lt_iff_toInt_lt]; omega
set_option maxHeartbeats 4000000 in
set_option maxRecDepth 100000 in
theorem c_J9_floorDiv_f86c9 (l : Launch) (hl : l.stackTraces = false) (G : zG) (x : Int64) (h : zH)  : zMet eL l yJ9_floorDiv_f86c9 cJ9_floorDiv_f86c9 6 (some .long) 12 0 0 G [.long x, .long 100] h (fun r h2 => r = zfd x ∧ h = h2) := by
  refine con_of hl RJ9 rfl (by decide +kernel) [(0, .long x), (2, .long 100)] rfl (Nat.le_of_ble_eq_true rfl) ?_
  intro zp ze zs zm zargs zbelow zmeth zc C hr hin Q hQ
  refine v_lload_n C 0 rfl dJ9_floorDiv_f86c9_0 rfl ?_
  refine v_lload_n C 1 rfl dJ9_floorDiv_f86c9_1 rfl ?_
  refine v_ldiv C dJ9_floorDiv_f86c9_2 (by decide) (v_eql (y := (x / 100)) (rfl) ?_)
  refine v_lstore C [(4, .long (x / 100)), (0, .long x), (2, .long 100)] rfl (by decide) dJ9_floorDiv_f86c9_3 ?_
  refine v_lload_n C 1 rfl dJ9_floorDiv_f86c9_5 rfl ?_
  refine v_lload_n C 2 rfl dJ9_floorDiv_f86c9_6 rfl ?_
  refine v_lxor C dJ9_floorDiv_f86c9_7 (v_eql (y := (x ^^^ 100)) (rfl) ?_)
  refine v_lconst (v := 0) C dJ9_floorDiv_f86c9_8 (by decide) ?_
  refine v_lcmp C dJ9_floorDiv_f86c9_9 ?_
  refine v_if_ge (tgt := 27) C dJ9_floorDiv_f86c9_10 (by decide) (fun c3 => ?_) (fun c3 => ?_)
  · have c3 := (lgc_ge (x ^^^ 100) 0).mp c3
    refine v_lload C 0 rfl dJ9_floorDiv_f86c9_27 ?_
    exact v_lret C hQ hr (Nat.le_of_ble_eq_true rfl) (Nat.le_of_ble_eq_true rfl) dJ9_floorDiv_f86c9_29 ⟨by exact zfd_1 c3, rfl⟩
  · have c3 := (lgc_ge_f (x ^^^ 100) 0).mp c3
    refine v_lload C 0 rfl dJ9_floorDiv_f86c9_13 ?_
    refine v_lload_n C 2 rfl dJ9_floorDiv_f86c9_15 rfl ?_
    refine v_lmul C dJ9_floorDiv_f86c9_16 (v_eql (y := (x / 100 * 100)) (rfl) ?_)
    refine v_lload_n C 1 rfl dJ9_floorDiv_f86c9_17 rfl ?_
    refine v_lcmp C dJ9_floorDiv_f86c9_18 ?_
    refine v_if_eq (tgt := 27) C dJ9_floorDiv_f86c9_19 (by decide) (fun c5 => ?_) (fun c5 => ?_)
    · have c5 := (lgc_eq (x / 100 * 100) x).mp c5
      refine v_lload C 0 rfl dJ9_floorDiv_f86c9_27 ?_
      exact v_lret C hQ hr (Nat.le_of_ble_eq_true rfl) (Nat.le_of_ble_eq_true rfl) dJ9_floorDiv_f86c9_29 ⟨by exact zfd_2 c5, rfl⟩
    · have c5 := (lgc_eq_f (x / 100 * 100) x).mp c5
      refine v_lload C 0 rfl dJ9_floorDiv_f86c9_22 ?_
      refine v_lconst (v := 1) C dJ9_floorDiv_f86c9_24 (by decide) ?_
      refine v_lsub C dJ9_floorDiv_f86c9_25 (v_eql (y := (x / 100 - 1)) (rfl) ?_)
      exact v_lret C hQ hr (Nat.le_of_ble_eq_true rfl) (Nat.le_of_ble_eq_true rfl) dJ9_floorDiv_f86c9_26 ⟨by exact zfd_3 c3 c5, rfl⟩

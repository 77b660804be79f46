theorem wn_t {x lo hi : Int32} (h1 : ¬ x < lo) (h2 : ¬ hi < x) : 1 = zb (wth x lo hi) := (zb_t (wth_iff.mpr ⟨Int32.not_lt.mp h1, Int32.not_lt.mp h2⟩)).symm
theorem wn_1 {x lo hi : Int32} (h1 : x < lo) : 0 = zb (wth x lo hi) := (zb_f (fun z => Int32.not_lt.mpr (wth_iff.mp z).1 h1)).symm
theorem wn_2 {x lo hi : Int32} (h1 : hi < x) : 0 = zb (wth x lo hi) := (zb_f (fun z => Int32.not_lt.mpr (wth_iff.mp z).2 h1)).symm

theorem wth_nat {x y : Int32} {n : Nat} (h : wth x 0 y) (hy : y = nI n) (hn : n + 1 < 2 ^ 31) : ∃ j, j ≤ n ∧ x = nI j := i32_inle hn (wth_iff.mp h).1 (by rw [← hy]; exact (wth_iff.mp h).2)
theorem nI_p1m1 (n : Nat) : nI (n + 1) - 1 = nI n := sb_m1w (by omega)
theorem MS.define {s : ZS} {ns ns2 : Nat → Nat} {na : Nat → Nat → Nat} {ia : Nat → Nat → Int32} {la : Nat → Nat → Int64} {f10 f11 : Nat → Nat} (hs : MS s ns na ia la) (hw : WFs s) (h0 : 0 < ns 2) (h7 : ns 7 < 10) (e2 : ns2 2 = ns 2 - 1) (e7 : ns2 7 = ns 7 + 1) (e17 : ns2 17 = ns 17) (e25 : ns2 25 = ns 25) (hdf : dfC (up2 na 8 (upN (na 8) (ns 7) (na 4 (ns 2 - 1)))) f10 f11 (ns 2 - 1) (20 * ns 7 + 0) (na 3 (ns 2 - 1))) : MS (nDefine s) ns2 (dfN (up2 na 8 (upN (na 8) (ns 7) (na 4 (ns 2 - 1)))) f10 f11 (ns 2 - 1) (20 * ns 7 + 0)) ia la := by
  have hn : ns 7 = oN s := hs.2.2.1.1
  obtain ⟨t3, t4, t5⟩ := top1_e hs h0
  refine hs.def hw (T2 := (oN s + 1, up2 (oL s) (oN s) (top1 s).2, up3 (oD s) (oN s) 0 (some (top1 s).1))) ?_ h0 e2 e17 e25 (fun k k8 k9 k10 k11 => ?_)
  · rw [e7, hn]
    rw [t3] at hdf
    rw [← hn]
    exact MSt.put (na := na) (n := ns 7) (p := ns 2 - 1) (f10 := f10) (f11 := f11) hs.2.2.1 hw.2.2.1 h7 (by decide) t5 t3 hdf (by show upN (na 9) _ (na 3 (ns 2 - 1)) = _; rw [t3]) rfl rfl (fun i hi => by
      show upN (na 8) (ns 7) (na 4 (ns 2 - 1)) i = up2 (oL s) (ns 7) (top1 s).2 i
      by_cases q : i = ns 7
      · subst q; rw [upN_s, up2_s, t4]
      · rw [upN_n q, up2_n q]; exact hs.2.2.1.2.1 i (show i < oN s by omega))
  · rw [dfN_k k9 k10 k11, up2_n k8]
def gI (n : Nat) : Int32 := nI n - 1
theorem gI_s (n : Nat) : nI n = gI (n + 1) := (nI_p1m1 n).symm
theorem gI_toInt {g : Nat} (h : g < 2 ^ 30) : (gI g).toInt = (g : Int) - 1 := pk_sub_toInt (b := 1) h (by decide)
theorem le_gI {n g : Nat} (hn : n < 2 ^ 30) (hg : g < 2 ^ 30) : nI n ≤ gI g ↔ n + 1 ≤ g := by
  rw [i32_le, gI_toInt hg, nI_toInt (by omega)]; omega

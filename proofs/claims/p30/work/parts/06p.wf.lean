/-! what the state keeps, call by call -/
theorem k2 {c d : Prop} [Decidable c] [Decidable d] {e f : Nat} (h : (if c then (if d then 0 else e + 1) else f + 1) = 0) : c ∧ d := by
  by_cases a : c
  · by_cases b : d
    · exact ⟨a, b⟩
    · rw [if_pos a, if_neg b] at h; omega
  · rw [if_neg a] at h; omega
theorem k2n {c d : Prop} [Decidable c] [Decidable d] {e f : Nat} (h : (if c then (if d then e + 1 else 0) else f + 1) = 0) : c ∧ ¬ d := by
  by_cases a : c
  · by_cases b : d
    · rw [if_pos a, if_pos b] at h; omega
    · exact ⟨a, b⟩
  · rw [if_neg a] at h; omega
theorem k3n {c d x : Prop} [Decidable c] [Decidable d] [Decidable x] {e f k : Nat} (h : (if c then (if d then (if x then e + 1 else 0) else k + 1) else f + 1) = 0) : c ∧ d ∧ ¬ x := by
  by_cases a : c
  · by_cases b : d
    · by_cases y : x
      · rw [if_pos a, if_pos b, if_pos y] at h; omega
      · exact ⟨a, b, y⟩
    · rw [if_pos a, if_neg b] at h; omega
  · rw [if_neg a] at h; omega
theorem k1n {d : Prop} [Decidable d] {e : Nat} (h : (if d then e + 1 else 0) = 0) : ¬ d := by
  by_cases b : d
  · rw [if_pos b] at h; omega
  · exact b
section
variable {s : ZS}
theorem all_snoc {S : List Frm} {f : Frm} {P : Frm → Prop} (h : ∀ i, i < S.length → P (S.getD i ([], 0))) (hf : P f) : ∀ i, i < (S ++ [f]).length → P ((S ++ [f]).getD i ([], 0)) := fun i hi => by
  by_cases q : i < S.length
  · rw [snocF q]; exact h i q
  · have e : i = S.length := by simp at hi; omega
    subst e; rw [snocFl]; exact hf
theorem all_dl {S : List Frm} {P : Frm → Prop} (h : ∀ i, i < S.length → P (S.getD i ([], 0))) : ∀ i, i < S.dropLast.length → P (S.dropLast.getD i ([], 0)) := fun i hi => by
  rw [List.length_dropLast] at hi
  rw [List.dropLast_eq_take, takeF (by omega)]; exact h i (by omega)
theorem WFs.stk (hw : WFs s) {S2 : List Frm} (hl : S2.length ≤ 8) (h : ∀ i, i < S2.length → FOK s (S2.getD i ([], 0))) : WFs (s.1, S2, s.2.2) := ⟨hl, h, hw.2.2⟩
theorem wf_amount (hw : WFs s) {a q v : Int32} (hk : kAmount a q v = 0) : WFs (nAmount s a q v) := by
  obtain ⟨⟨h1, h2⟩, h3⟩ := k2 hk
  refine ⟨hw.1, hw.2.1, hw.2.2.1, fun i j hi hj => ?_, hw.2.2.2.2⟩
  show wth (up3 (oA s) (cl a) (cl q) v i j) _ _
  by_cases z : i = cl a ∧ j = cl q
  · obtain ⟨rfl, rfl⟩ := z; rw [up3_s]; exact h3
  · rw [up3_n z]; exact hw.2.2.2.1 i j hi hj
theorem wf_push (hw : WFs s) {f : Frm} (hl : (oS s).length < 8) (hf : FOK s f) : WFs (nPush s f) := hw.stk (by rw [List.length_append]; show _ + 1 ≤ 8; omega) (all_snoc hw.2.1 hf)
theorem len_lt (hw : WFs s) (h : ¬ (oS s).length = 8) : (oS s).length < 8 := by have := hw.1; omega
theorem wf_account (hw : WFs s) {a : Int32} (hk : kAccount s a = 0) : WFs (nPush s ([(4, cl a)], 1)) := by
  obtain ⟨h1, h2⟩ := k2n hk
  obtain ⟨j, hj, rfl⟩ := h1.nat (by decide)
  rw [cl_nI (by omega)]
  exact wf_push hw (len_lt hw h2) ⟨Nat.le_refl _, show 1 ≤ 6 by decide, Or.inl ⟨j, hj, rfl⟩, Nat.zero_le _⟩
theorem wf_number (hw : WFs s) {v : Int32} (hk : kNumber s v = 0) : WFs (nPush s ([(5, cl v)], 1)) := by
  obtain ⟨h1, h2⟩ := k2n hk
  obtain ⟨j, hj, rfl⟩ := wth_nat (n := 1000000) h1 (by decide) (by decide)
  rw [cl_nI (by omega)]
  exact wf_push hw (len_lt hw h2) ⟨Nat.le_refl _, show 1 ≤ 6 by decide, Or.inr (Or.inl ⟨j, hj, rfl⟩), Nat.zero_le _⟩
theorem wf_term (hw : WFs s) {t : Int32} (hk : kTerm s t = 0) : WFs (nPush s ([(6, cl t)], oL s (cl t) + 1)) := by
  obtain ⟨h1, h2⟩ := k2n hk
  have hn := hw.2.2.1.1
  obtain ⟨j, hj, rfl⟩ := h1.nat (by omega)
  have e : cl (nI j) = j := cl_nI (by omega)
  rw [e] at h2
  rw [e]
  obtain ⟨l1, l2, -⟩ := hw.2.2.1.2.1 j hj
  have h3 : ¬ (oS s).length = 8 := fun z => h2 (Or.inl z)
  have h4 : ¬ oL s j = 6 := fun z => h2 (Or.inr z)
  exact wf_push hw (len_lt hw h3) ⟨show 1 ≤ oL s j + 1 by omega, show oL s j + 1 ≤ 6 by omega, Or.inr (Or.inr (Or.inl ⟨j, by omega, Nat.le_refl _, l1, rfl⟩)), by show max (j + 1) 0 ≤ oN s; omega⟩
theorem wf_join (hw : WFs s) {k : Int32} (hk : kJoin s k = 0) : WFs (nJoin s k) := by
  obtain ⟨h1, h2⟩ := k2n hk
  obtain ⟨j, hj, rfl⟩ := wth_nat (n := 3) h1 (by decide) (by decide)
  have e : cl (nI j) = j := cl_nI (by omega)
  have n2 : 2 ≤ (oS s).length := by
    by_cases z : (oS s).length < 2
    · exact absurd (Or.inl z) h2
    · omega
  have o1 := top1_ok hw (by omega)
  have o2 : FOK s (top2 s) := hw.2.1 _ (by omega)
  have l1 : ¬ (top1 s).2 = 6 := fun z => h2 (Or.inr (Or.inr z))
  have l2 : ¬ (top2 s).2 = 6 := fun z => h2 (Or.inr (Or.inl z))
  have b1 := o1.2.1
  have b2 := o2.2.1
  have hl := hw.1
  refine hw.stk ?_ (all_snoc (all_dl (all_dl hw.2.1)) ?_)
  · simp only [List.length_append, List.length_dropLast, List.length_cons, List.length_nil]; omega
  · unfold fJoin
    rw [e]
    refine ⟨show 1 ≤ 1 + max (top2 s).2 (top1 s).2 by omega, show 1 + max (top2 s).2 (top1 s).2 ≤ 6 by omega, ?_, ?_⟩
    · show WL (oL s) (1 + max (top2 s).2 (top1 s).2) ((top2 s).1 ++ (top1 s).1 ++ [(j, 0)])
      rw [Nat.add_comm]
      exact Or.inr (Or.inr (Or.inr (Or.inl ⟨j, _, _, by omega, o2.2.2.1.up (by omega), o1.2.2.1.up (by omega), rfl⟩)))
    · show gtk ((top2 s).1 ++ (top1 s).1 ++ [(j, 0)]) ≤ oN s
      have g1 := o1.2.2.2
      have g2 := o2.2.2.2
      rw [gtk_app, gtk_app]
      show max (max _ _) (max (if j = 6 then 0 + 1 else 0) 0) ≤ _
      rw [if_neg (by omega)]; omega
theorem wf_grow (hw : WFs s) {k n : Nat} (h0 : ¬ (oS s).length = 0) (h6 : ¬ (top1 s).2 = 6) (hk : (k = 7 ∧ n ≤ 100) ∨ (k = 8 ∧ n = 0)) : WFs (s.1, (oS s).dropLast ++ [((top1 s).1 ++ [(k, n)], (top1 s).2 + 1)], s.2.2) := by
  have o1 := top1_ok hw (by omega)
  have b1 := o1.2.1
  have hl := hw.1
  refine hw.stk ?_ (all_snoc (all_dl hw.2.1) ⟨show 1 ≤ (top1 s).2 + 1 by omega, show (top1 s).2 + 1 ≤ 6 by omega, ?_, ?_⟩)
  · simp only [List.length_append, List.length_dropLast, List.length_cons, List.length_nil]; omega
  · rcases hk with ⟨rfl, h⟩ | ⟨rfl, rfl⟩
    · exact Or.inr (Or.inr (Or.inr (Or.inr (Or.inl ⟨n, _, h, o1.2.2.1, rfl⟩))))
    · exact Or.inr (Or.inr (Or.inr (Or.inr (Or.inr ⟨_, o1.2.2.1, rfl⟩))))
  · show gtk ((top1 s).1 ++ [(k, n)]) ≤ oN s
    have g1 := o1.2.2.2
    rw [gtk_app]
    show max _ (max (if k = 6 then n + 1 else 0) 0) ≤ _
    rw [if_neg (by omega)]; omega
theorem wf_share (hw : WFs s) {p : Int32} (hk : kShare s p = 0) : WFs (nShare s p) := by
  obtain ⟨h1, h2⟩ := k2n hk
  obtain ⟨j, hj, rfl⟩ := wth_nat (n := 100) h1 (by decide) (by decide)
  unfold nShare
  rw [cl_nI (by omega)]
  exact wf_grow hw (fun z => h2 (Or.inl z)) (fun z => h2 (Or.inr z)) (Or.inl ⟨rfl, hj⟩)
theorem wf_year (hw : WFs s) (hk : kYear s = 0) : WFs (nYear s) := by
  have h2 := k1n hk
  exact wf_grow hw (fun z => h2 (Or.inl z)) (fun z => h2 (Or.inr z)) (Or.inr ⟨rfl, rfl⟩)
theorem wf_clear (hw : WFs s) : WFs (nClear s) := hw.stk (Nat.zero_le _) (fun i hi => absurd hi (Nat.not_lt_zero _))
theorem wf_define (hw : WFs s) (hk : kDefine s = 0) : WFs (nDefine s) := by
  have h2 := k1n hk
  have h0 : ¬ (oS s).length = 0 := fun z => h2 (Or.inl z)
  have h10 : ¬ oN s = 10 := fun z => h2 (Or.inr z)
  have o1 := top1_ok hw (by omega)
  obtain ⟨w1, w2, ⟨t1, t2, t3⟩, w4, ⟨r1, r2, r3⟩, b1, b2, b3⟩ := hw
  have tl2 : ∀ k, k < oN s → up2 (oL s) (oN s) (top1 s).2 k = oL s k := fun k hk => up2_n (by omega)
  refine ⟨?_, all_dl (S := oS s) (P := FOK (nDefine s)) (fun i hi => ?_), ⟨?_, fun t ht => ?_, fun t q ht => ?_⟩, w4, ⟨r1, fun r hr => ?_, r3⟩, b1, fun b hb => ?_, b3⟩
  · show (oS s).dropLast.length ≤ 8
    rw [List.length_dropLast]; omega
  · obtain ⟨f1, f2, f3, f4⟩ := w2 i hi
    exact ⟨f1, f2, f3.tl f4 tl2, show _ ≤ oN s + 1 from Nat.le_succ_of_le f4⟩
  · show oN s + 1 ≤ 10; omega
  · have ht' : t < oN s + 1 := ht
    show 1 ≤ up2 (oL s) (oN s) (top1 s).2 t ∧ up2 (oL s) (oN s) (top1 s).2 t ≤ 6 ∧ up3 (oD s) (oN s) 0 (some (top1 s).1) t 0 ≠ none ∧ ∀ q f, up3 (oD s) (oN s) 0 (some (top1 s).1) t q = some f → WL (up2 (oL s) (oN s) (top1 s).2) (up2 (oL s) (oN s) (top1 s).2 t) f ∧ gtk f ≤ t
    by_cases z : t = oN s
    · subst z
      rw [up2_s, up3_s]
      refine ⟨o1.1, o1.2.1, (fun z => by cases z), fun q f hf => ?_⟩
      by_cases y : q = 0
      · subst y
        rw [up3_s] at hf
        cases hf
        exact ⟨o1.2.2.1.tl o1.2.2.2 tl2, o1.2.2.2⟩
      · rw [up3_n (fun z => y z.2), t3 _ q (Nat.le_refl _)] at hf; cases hf
    · rw [up2_n z, up3_n (fun y => z y.1)]
      obtain ⟨a1, a2, a3, a4⟩ := t2 t (by omega)
      refine ⟨a1, a2, a3, fun q f hf => ?_⟩
      rw [up3_n (fun y => z y.1)] at hf
      obtain ⟨c1, c2⟩ := a4 q f hf
      exact ⟨c1.tl (N := oN s) (by omega) tl2, c2⟩
  · have ht' : oN s + 1 ≤ t := ht
    show up3 (oD s) (oN s) 0 (some (top1 s).1) t q = none
    rw [up3_n (fun y => by omega)]; exact t3 t q (by omega)
  · obtain ⟨a1, a2, a3⟩ := r2 r hr
    exact ⟨Nat.lt_succ_of_lt a1, Nat.lt_succ_of_lt a2, a3⟩
  · obtain ⟨a1, a2⟩ := b2 b hb
    exact ⟨Nat.lt_succ_of_lt a1, a2⟩
theorem wf_amend (hw : WFs s) {t q : Int32} (hk : kAmend s t q = 0) : WFs (nAmend s t q) := by
  obtain ⟨⟨h1, hq⟩, h2⟩ := k2n hk
  obtain ⟨j, hj, rfl⟩ := h1.nat (by have := hw.2.2.1.1; omega)
  have e : cl (nI j) = j := cl_nI (by have := hw.2.2.1.1; omega)
  rw [e] at h2
  have h0 : ¬ (oS s).length = 0 := fun z => h2 (Or.inl z)
  have hL : ¬ oL s j < (top1 s).2 := fun z => h2 (Or.inr (Or.inl z))
  have hG : ¬ j < gtk (top1 s).1 := fun z => h2 (Or.inr (Or.inr z))
  have o1 := top1_ok hw (by omega)
  obtain ⟨w1, w2, ⟨t1, t2, t3⟩, w4⟩ := hw
  unfold nAmend
  rw [e]
  refine ⟨?_, all_dl w2, ⟨t1, fun t ht => ?_, fun t q' ht => ?_⟩, w4⟩
  · show (oS s).dropLast.length ≤ 8
    rw [List.length_dropLast]; omega
  · obtain ⟨a1, a2, a3, a4⟩ := t2 t ht
    show 1 ≤ oL s t ∧ oL s t ≤ 6 ∧ up3 (oD s) j (cl q) (some (top1 s).1) t 0 ≠ none ∧ ∀ q' f, up3 (oD s) j (cl q) (some (top1 s).1) t q' = some f → WL (oL s) (oL s t) f ∧ gtk f ≤ t
    refine ⟨a1, a2, ?_, fun q' f hf => ?_⟩
    · by_cases z : t = j ∧ 0 = cl q
      · rw [show up3 (oD s) j (cl q) (some (top1 s).1) t 0 = some (top1 s).1 from if_pos z]; exact fun y => by cases y
      · rw [up3_n z]; exact a3
    · by_cases z : t = j ∧ q' = cl q
      · rw [show up3 (oD s) j (cl q) (some (top1 s).1) t q' = some (top1 s).1 from if_pos z] at hf
        cases hf
        obtain ⟨rfl, -⟩ := z
        exact ⟨o1.2.2.1.up (by omega), by omega⟩
      · rw [up3_n z] at hf; exact a4 q' f hf
  · show up3 (oD s) j (cl q) (some (top1 s).1) t q' = none
    have ht' : oN s ≤ t := ht
    rw [up3_n (fun y => by omega)]; exact t3 t q' ht
theorem wf_test (hw : WFs s) {a b : Int32} (hk : kTest s a b = 0) : WFs (nTest s a b) := by
  obtain ⟨⟨h1, h2⟩, h3⟩ := k2n hk
  have hn := hw.2.2.1.1
  obtain ⟨i, hi, rfl⟩ := h1.nat (by omega)
  obtain ⟨j, hj, rfl⟩ := h2.nat (by omega)
  unfold nTest
  rw [cl_nI (by omega), cl_nI (by omega)]
  obtain ⟨w1, w2, w3, w4, ⟨r1, r2, r3⟩, w6⟩ := hw
  refine ⟨w1, w2, w3, w4, ⟨show rN s + 1 ≤ 6 by omega, fun r hr => ?_, fun r hr => ?_⟩, w6⟩
  · have hr' : r < rN s + 1 := hr
    show up2 (rT s) (rN s) i r < oN s ∧ up2 (rB s) (rN s) j r < oN s ∧ (rW s r = -1 ∨ inN (rW s r) 6) ∧ ∀ q, q < 20 → wth (rL s r q) (-1) 10000 ∧ wth (rC s r q) 0 1000000
    by_cases z : r = rN s
    · subst z
      rw [up2_s, up2_s]
      obtain ⟨a1, a2, a3⟩ := r3 (rN s) (Nat.le_refl _)
      exact ⟨hi, hj, Or.inl a1, fun q hq => by rw [(a3 q).1, (a3 q).2.1]; exact ⟨by decide, by decide⟩⟩
    · rw [up2_n z, up2_n z]; exact r2 r (by omega)
  · have hr' : rN s + 1 ≤ r := hr
    exact r3 r (by omega)
theorem wf_limit (hw : WFs s) {r q v : Int32} (hk : kLimit s r q v = 0) : WFs (nLimit s r q v) := by
  obtain ⟨⟨h1, h2⟩, h3⟩ := k2 hk
  have hn := hw.2.2.2.2.1.1
  obtain ⟨j, hj, rfl⟩ := h1.nat (by omega)
  unfold nLimit
  rw [cl_nI (by omega)]
  obtain ⟨w1, w2, w3, w4, ⟨r1, r2, r3⟩, w6⟩ := hw
  refine ⟨w1, w2, w3, w4, ⟨r1, fun i hi => ?_, fun i hi => ?_⟩, w6⟩
  · obtain ⟨a1, a2, a3, a4⟩ := r2 i hi
    refine ⟨a1, a2, a3, fun z hz => ⟨?_, (a4 z hz).2⟩⟩
    show wth (up3 (rL s) j (cl q) v i z) (-1) 10000
    by_cases y : i = j ∧ z = cl q
    · rw [show up3 (rL s) j (cl q) v i z = v from if_pos y]
      refine wth_iff.mpr ⟨?_, (wth_iff.mp h3).2⟩
      have := (wth_iff.mp h3).1
      rw [i32_le, show (0 : Int32).toInt = 0 from rfl] at this
      rw [i32_le, show (-1 : Int32).toInt = -1 from rfl]; omega
    · rw [up3_n y]; exact (a4 z hz).1
  · have hi' : rN s ≤ i := hi
    obtain ⟨a1, a2, a3⟩ := r3 i hi
    refine ⟨a1, a2, fun z => ⟨?_, (a3 z).2⟩⟩
    show up3 (rL s) j (cl q) v i z = -1
    rw [up3_n (fun y => by omega)]; exact (a3 z).1
theorem wf_wake (hw : WFs s) {r a v : Int32} (hk : kWake s r a v = 0) : WFs (nWake s r a v) := by
  obtain ⟨⟨h1, h2⟩, h3⟩ := k2 hk
  have hn := hw.2.2.2.2.1.1
  obtain ⟨j, hj, rfl⟩ := h1.nat (by omega)
  unfold nWake
  rw [cl_nI (by omega)]
  obtain ⟨w1, w2, w3, w4, ⟨r1, r2, r3⟩, w6⟩ := hw
  refine ⟨w1, w2, w3, w4, ⟨r1, fun i hi => ?_, fun i hi => ?_⟩, w6⟩
  · obtain ⟨a1, a2, a3, a4⟩ := r2 i hi
    refine ⟨a1, a2, ?_, a4⟩
    show up2 (rW s) j a i = -1 ∨ inN (up2 (rW s) j a i) 6
    by_cases y : i = j
    · subst y; rw [up2_s]; exact h2
    · rw [up2_n y]; exact a3
  · have hi' : rN s ≤ i := hi
    obtain ⟨a1, a2, a3⟩ := r3 i hi
    refine ⟨?_, ?_, a3⟩
    · show up2 (rW s) j a i = -1
      rw [up2_n (by omega)]; exact a1
    · show up2 (rE s) j v i = 0
      rw [up2_n (by omega)]; exact a2
theorem wf_cure (hw : WFs s) {r q v : Int32} (hk : kCure s r q v = 0) : WFs (nCure s r q v) := by
  obtain ⟨⟨h1, h2⟩, h3, h4⟩ := k3n hk
  have hn := hw.2.2.2.2.1.1
  obtain ⟨j, hj, rfl⟩ := h1.nat (by omega)
  unfold nCure
  rw [cl_nI (by omega)]
  obtain ⟨w1, w2, w3, w4, ⟨r1, r2, r3⟩, w6⟩ := hw
  refine ⟨w1, w2, w3, w4, ⟨r1, fun i hi => ?_, fun i hi => ?_⟩, w6⟩
  · obtain ⟨a1, a2, a3, a4⟩ := r2 i hi
    refine ⟨a1, a2, a3, fun z hz => ⟨(a4 z hz).1, ?_⟩⟩
    show wth (up3 (rC s) j (cl q) v i z) 0 1000000
    by_cases y : i = j ∧ z = cl q
    · rw [show up3 (rC s) j (cl q) v i z = v from if_pos y]
      exact wth_iff.mpr ⟨wth_1 h3, (wth_iff.mp h3).2⟩
    · rw [up3_n y]; exact (a4 z hz).2
  · have hi' : rN s ≤ i := hi
    obtain ⟨a1, a2, a3⟩ := r3 i hi
    refine ⟨a1, a2, fun z => ⟨(a3 z).1, ?_, (a3 z).2.2⟩⟩
    show up3 (rC s) j (cl q) v i z = 0
    rw [up3_n (fun y => by omega)]; exact (a3 z).2.1
theorem wf_waive (hw : WFs s) {r q : Int32} (hk : kIsRQ s r q = 0) : WFs (nWaive s r q) := by
  have h0 : inN r (rN s) ∧ inN q 20 := by
    by_cases a : inN r (rN s) ∧ inN q 20
    · exact a
    · unfold kIsRQ at hk; rw [if_neg a] at hk; cases hk
  have hn := hw.2.2.2.2.1.1
  obtain ⟨j, hj, rfl⟩ := h0.1.nat (by omega)
  unfold nWaive
  rw [cl_nI (by omega)]
  obtain ⟨w1, w2, w3, w4, ⟨r1, r2, r3⟩, w6⟩ := hw
  refine ⟨w1, w2, w3, w4, ⟨r1, r2, fun i hi => ?_⟩, w6⟩
  have hi' : rN s ≤ i := hi
  obtain ⟨a1, a2, a3⟩ := r3 i hi
  refine ⟨a1, a2, fun z => ⟨(a3 z).1, (a3 z).2.1, ?_⟩⟩
  show up3 (rV s) j (cl q) (!(rV s j (cl q))) i z = false
  rw [up3_n (fun y => by omega)]; exact (a3 z).2.2
theorem wf_basket (hw : WFs s) {f t p : Int32} (hk : kBasket s f t p = 0) : WFs (nBasket s f t p) := by
  obtain ⟨⟨h1, h2⟩, h3, h4⟩ := k3n hk
  have hn := hw.2.2.1.1
  obtain ⟨j, hj, rfl⟩ := h3.nat (by omega)
  unfold nBasket
  rw [cl_nI (by omega)]
  obtain ⟨w1, w2, w3, w4, w5, b1, b2, b3⟩ := hw
  refine ⟨w1, w2, w3, w4, w5, show bN s + 1 ≤ 6 by omega, fun i hi => ?_, fun i hi => ?_⟩
  · have hi' : i < bN s + 1 := hi
    show up2 (bT s) (bN s) j i < oN s ∧ wth (up2 (bF s) (bN s) f i) 0 1000000 ∧ wth (up2 (bP s) (bN s) p i) 0 100
    by_cases z : i = bN s
    · subst z; rw [up2_s, up2_s, up2_s]; exact ⟨hj, h1, h2⟩
    · rw [up2_n z, up2_n z, up2_n z]; exact b2 i (by omega)
  · have hi' : bN s + 1 ≤ i := hi
    show up2 (bU s) (bN s) 0 i = 0
    rw [up2_n (by omega)]; exact b3 i (by omega)
theorem wf_used (hw : WFs s) {b : Int32} {v : Int64} (h : inN b (bN s)) : WFs (nUse s b v) := by
  have hn := hw.2.2.2.2.2.1
  obtain ⟨j, hj, rfl⟩ := h.nat (by omega)
  unfold nUse
  rw [cl_nI (by omega)]
  obtain ⟨w1, w2, w3, w4, w5, b1, b2, b3⟩ := hw
  refine ⟨w1, w2, w3, w4, w5, b1, b2, fun i hi => ?_⟩
  have hi' : bN s ≤ i := hi
  show up2 (bU s) j v i = 0
  rw [up2_n (by omega)]; exact b3 i hi
theorem wf_use (hw : WFs s) {b q v : Int32} {u : Int64} (hk : kUse s b q v = 0) : WFs (nUse s b u) := wf_used hw (k3n hk).1.1
theorem wf_refill (hw : WFs s) {b v : Int32} {u : Int64} (hk : kRefill s b v = 0) : WFs (nUse s b u) := wf_used hw (k3n hk).1
theorem wf_z0 : WFs z0 := ⟨Nat.zero_le _, fun i hi => absurd hi (Nat.not_lt_zero _), ⟨Nat.zero_le _, fun t ht => absurd ht (Nat.not_lt_zero _), fun _ _ _ => rfl⟩, fun a q _ _ => (by decide : wth (0 : Int32) (-1000000) 1000000), ⟨Nat.zero_le _, fun r hr => absurd hr (Nat.not_lt_zero _), fun r _ => ⟨rfl, rfl, fun q => ⟨rfl, rfl, rfl⟩⟩⟩, Nat.zero_le _, fun b hb => absurd hb (Nat.not_lt_zero _), fun _ _ => rfl⟩
end

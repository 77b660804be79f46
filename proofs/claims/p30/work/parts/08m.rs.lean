/-! what each act does to the relation -/
theorem FE.ext {F F2 : Nat → Nat} {T T2 : Nat → List Tok} {lv lv2 tl tl2 : Nat → Nat} {N N2 M k : Nat} (h : FE F T lv tl N k) (hk : k < M) (hF : ∀ j, j < 4 * M → F2 j = F j) (hT : ∀ j, j < M → T2 j = T j ∧ lv2 j = lv j) (hN : N ≤ N2) (ht : ∀ t, t < N → tl2 t = tl t) : FE F2 T2 lv2 tl2 N2 k := by
  obtain ⟨l1, l6, l3, h⟩ := h
  have e0 := hF (4 * k) (by omega)
  have e1 := hF (4 * k + 1) (by omega)
  have e2 := hF (4 * k + 2) (by omega)
  have e3 := hF (4 * k + 3) (by omega)
  obtain ⟨t0, v0⟩ := hT k hk
  unfold FE
  rw [e0, e1, e2, e3, t0, v0]
  refine ⟨l1, l6, l3, ?_⟩
  rcases h with h | h | ⟨a, b, c, d⟩ | ⟨a, b, c, d, e⟩ | ⟨a, b, c, d, e⟩ | ⟨a, b, c, d⟩
  · exact Or.inl h
  · exact Or.inr (Or.inl h)
  · exact Or.inr (Or.inr (Or.inl ⟨a, by omega, c, by rw [ht _ b]; exact d⟩))
  · obtain ⟨x1, y1⟩ := hT (F (4 * k + 1)) (by omega)
    obtain ⟨x2, y2⟩ := hT (F (4 * k + 2)) (by omega)
    exact Or.inr (Or.inr (Or.inr (Or.inl ⟨a, b, c, by rw [x1, x2]; exact d, by rw [y1, y2]; exact e⟩)))
  · obtain ⟨x1, y1⟩ := hT (F (4 * k + 1)) (by omega)
    exact Or.inr (Or.inr (Or.inr (Or.inr (Or.inl ⟨a, b, c, by rw [x1]; exact d, by rw [y1]; exact e⟩))))
  · obtain ⟨x1, y1⟩ := hT (F (4 * k + 1)) (by omega)
    exact Or.inr (Or.inr (Or.inr (Or.inr (Or.inr ⟨a, b, by rw [x1]; exact c, by rw [y1]; exact d⟩))))
section
variable {s : ZS} {F VV S : Nat → Nat} {A D B U : Nat → Int32} {T : Nat → List Tok} {lv : Nat → Nat} {N w w2 : Nat}
theorem EU.mono (h : EU s U w) (hw : w ≤ w2) : EU s U w2 := ⟨h.1, fun k hk => ⟨(h.2 k hk).1, (h.2 k hk).2.1, (h.2 k hk).2.2.1, by have := (h.2 k hk).2.2.2; omega⟩⟩
theorem RS.mono (h : RS s F A D VV B U S T lv N w) (hw : w ≤ w2) : RS s F A D VV B U S T lv N w2 := ⟨h.1, h.2.1, h.2.2.1, h.2.2.2.1, h.2.2.2.2.1, h.2.2.2.2.2.mono hw⟩
theorem ix10 {a q i j : Nat} (hq : q < 10) (hj : j < 10) : 10 * i + j = 10 * a + q ↔ i = a ∧ j = q := by omega
theorem rs_amount (h : RS s F A D VV B U S T lv N w) {a q : Nat} {v : Int32} (ha : a < 6) (hq : q < 9) : RS (nAmount s (nI a) (nI q) v) F (up2 A (10 * a + q) v) D VV B U S T lv N w := by
  obtain ⟨⟨h1, h2, h3, h4, h5⟩, hr⟩ := h
  refine ⟨⟨h1, h2, h3, fun i j hi hj => ?_, h5⟩, hr⟩
  show up2 A (10 * a + q) v (10 * i + j) = up3 (oA s) (cl (nI a)) (cl (nI q)) v i j
  rw [cl_nI (show a < 2 ^ 31 by omega), cl_nI (show q < 2 ^ 31 by omega)]
  by_cases z : i = a ∧ j = q
  · obtain ⟨rfl, rfl⟩ := z; rw [up2_s, up3_s]
  · rw [up2_n (fun y => z ((ix10 (by omega) (by omega)).mp y)), up3_n z]; exact h4 i j hi hj
/-- a new formula over the m lowest of the stack -/
theorem rs_new (h : RS s F A D VV B U S T lv N w) (hN : N < 15) {F2 : Nat → Nat} {m : Nat} {f : Frm} {L : List Frm} (hm : m ≤ (oS s).length) (hS : L = (oS s).take m ++ [f]) (hF : ∀ j, j < 4 * N → F2 j = F j) (hnew : FE F2 (up2 T N f.1) (upN lv N f.2) (oL s) (oN s) N) : RS (s.1, L, s.2.2) F2 A D VV B U (upN S m N) (up2 T N f.1) (upN lv N f.2) (N + 1) w := by
  obtain ⟨⟨h1, h2, h3, h4, h5⟩, hs, hr⟩ := h
  have hT : ∀ j, j < N → up2 T N f.1 j = T j ∧ upN lv N f.2 j = lv j := fun j hj => ⟨up2_n (by omega), upN_n (by omega)⟩
  refine ⟨⟨by omega, h2, fun k hk => ?_, h4, fun t ht q hq => ?_⟩, fun i hi => ?_, hr⟩
  · by_cases z : k = N
    · subst z; exact hnew
    · exact (h3 k (by omega)).ext (show k < N by omega) hF hT (Nat.le_refl _) (fun _ _ => rfl)
  · rcases h5 t ht q hq with z | ⟨k, a, b, c, d⟩
    · exact Or.inl z
    · exact Or.inr ⟨k, by omega, b, by rw [(hT k a).1]; exact c, by rw [(hT k a).2]; exact d⟩
  · have hl : L.length = m + 1 := by rw [hS, List.length_append, List.length_take]; simp only [List.length_cons, List.length_nil]; omega
    have hi2 : i < L.length := hi
    have htl : ((oS s).take m).length = m := by rw [List.length_take]; omega
    show upN S m N i < N + 1 ∧ L.getD i ([], 0) = (up2 T N f.1 (upN S m N i), upN lv N f.2 (upN S m N i))
    by_cases z : i = m
    · subst z
      rw [upN_s, up2_s, upN_s, hS]
      refine ⟨by omega, ?_⟩
      have e := snocFl (S := (oS s).take i) (f := f)
      rw [htl] at e; exact e
    · obtain ⟨a, b⟩ := hs i (by omega)
      rw [upN_n z, (hT _ a).1, (hT _ a).2, hS, snocF (by omega), takeF (by omega)]
      exact ⟨by omega, b⟩
theorem dl_take (L : List Frm) : L.dropLast = L.take (L.length - 1) := List.dropLast_eq_take
theorem dl2_take (L : List Frm) : L.dropLast.dropLast = L.take (L.length - 2) := by
  rw [dl_take, dl_take, List.take_take, List.length_take]
  congr 1; omega
/-- the uppermost formula is taken -/
theorem es_pop (h : ES s S T lv N) {L : List Frm} (hL : L = (oS s).dropLast) : ∀ i, i < L.length → S i < N ∧ L.getD i ([], 0) = (T (S i), lv (S i)) := fun i hi => by
  rw [hL, dl_take, List.length_take] at hi
  rw [hL, dl_take, takeF (by omega)]
  exact h i (by omega)
theorem rs_define (h : RS s F A D VV B U S T lv N w) (hw : WFs s) (h0 : oN s < 6) {u : Nat} (hu : u < N) (ht1 : top1 s = (T u, lv u)) : RS (nDefine s) F A (up2 D (10 * oN s) (nI u)) (upN VV (oN s) (lv u)) B U S T lv N w := by
  obtain ⟨⟨h1, h2, h3, h4, h5⟩, hs, hv, ⟨hd1, hd2⟩, hr⟩ := h
  refine ⟨⟨h1, by show oN s + 1 ≤ 6; omega, fun k hk => (h3 k hk).ext hk (fun _ _ => rfl) (fun _ _ => ⟨rfl, rfl⟩) (by show oN s ≤ oN s + 1; omega) (fun t ht => up2_n (by omega)), h4, fun t ht q hq => ?_⟩, ?_, fun t ht => ?_, ⟨fun t q ht h9 h20 => ?_, fun t q ht h6 hq => ?_⟩, hr⟩
  · show (up2 D (10 * oN s) (nI u) (10 * t + q) = -1 ∧ up3 (oD s) (oN s) 0 (some (top1 s).1) t q = none) ∨ ∃ k, k < N ∧ up2 D (10 * oN s) (nI u) (10 * t + q) = nI k ∧ up3 (oD s) (oN s) 0 (some (top1 s).1) t q = some (T k) ∧ lv k ≤ up2 (oL s) (oN s) (top1 s).2 t
    by_cases z : t = oN s
    · subst z
      by_cases y : q = 0
      · subst y
        refine Or.inr ⟨u, hu, ?_, ?_, ?_⟩
        · rw [Nat.add_zero, up2_s]
        · rw [up3_s, ht1]
        · rw [up2_s, ht1]; exact Nat.le_refl _
      · refine Or.inl ⟨?_, ?_⟩
        · rw [up2_n (by omega)]; exact hd2 _ q (Nat.le_refl _) h0 hq
        · rw [up3_n (fun x => y x.2)]; exact hw.2.2.1.2.2 _ _ (Nat.le_refl _)
    · have ht2 : t < oN s := by have : t < oN s + 1 := ht; omega
      rw [up2_n (by omega), up3_n (fun x => z x.1), up2_n z]
      exact h5 t ht2 q hq
  · exact es_pop hs rfl
  · have ht2 : t < oN s + 1 := ht
    show upN VV (oN s) (lv u) t = up2 (oL s) (oN s) (top1 s).2 t
    by_cases z : t = oN s
    · subst z; rw [upN_s, up2_s, ht1]
    · rw [upN_n z, up2_n z]; exact hv t (by omega)
  · have ht2 : t < oN s + 1 := ht
    show up3 (oD s) (oN s) 0 (some (top1 s).1) t q = none
    rw [up3_n (fun x => by omega)]
    by_cases z : t < oN s
    · exact hd1 t q z h9 h20
    · exact hw.2.2.1.2.2 _ _ (by omega)
  · have ht2 : oN s + 1 ≤ t := ht
    rw [up2_n (by omega)]; exact hd2 t q (by omega) h6 hq
theorem rs_amend (h : RS s F A D VV B U S T lv N w) {t q u : Nat} (ht : t < oN s) (hq : q < 9) (hu : u < N) (ht1 : top1 s = (T u, lv u)) (hl : lv u ≤ oL s t) : RS (nAmend s (nI t) (nI q)) F A (up2 D (10 * t + q) (nI u)) VV B U S T lv N w := by
  obtain ⟨⟨h1, h2, h3, h4, h5⟩, hs, hv, ⟨hd1, hd2⟩, hr⟩ := h
  refine ⟨⟨h1, h2, h3, h4, fun i hi j hj => ?_⟩, es_pop hs rfl, hv, ⟨fun i j hi h9 h20 => ?_, fun i j hi h6 hj => ?_⟩, hr⟩
  · show (up2 D (10 * t + q) (nI u) (10 * i + j) = -1 ∧ up3 (oD s) (cl (nI t)) (cl (nI q)) (some (top1 s).1) i j = none) ∨ ∃ k, k < N ∧ up2 D (10 * t + q) (nI u) (10 * i + j) = nI k ∧ up3 (oD s) (cl (nI t)) (cl (nI q)) (some (top1 s).1) i j = some (T k) ∧ lv k ≤ oL s i
    rw [cl_nI (show t < 2 ^ 31 by omega), cl_nI (show q < 2 ^ 31 by omega)]
    by_cases z : i = t ∧ j = q
    · obtain ⟨rfl, rfl⟩ := z
      exact Or.inr ⟨u, hu, up2_s, by rw [up3_s, ht1], hl⟩
    · rw [up2_n (fun y => z ((ix10 (by omega) hj).mp y)), up3_n z]; exact h5 i hi j hj
  · show up3 (oD s) (cl (nI t)) (cl (nI q)) (some (top1 s).1) i j = none
    rw [cl_nI (show q < 2 ^ 31 by omega), up3_n (fun x => by omega)]
    exact hd1 i j hi h9 h20
  · have hi2 : oN s ≤ i := hi
    rw [up2_n (by omega)]; exact hd2 i j hi h6 hj
/-! tests -/
theorem rs_test (h : RS s F A D VV B U S T lv N w) (hw : WFs s) (h2 : rN s < 2) {a b : Nat} (ha : a < oN s) (hb : b < oN s) {B3 : Nat → Int32} (b0 : B3 (32 * rN s) = nI a) (b1 : B3 (32 * rN s + 1) = nI b) (b2 : B3 (32 * rN s + 2) = -1) (b4 : ∀ z, z < 9 → B3 (32 * rN s + 4 + z) = -1) (bb : ∀ j, (j < 32 * rN s ∨ 32 * rN s + 13 ≤ j ∨ j = 32 * rN s + 3) → B3 j = B j) : RS (nTest s (nI a) (nI b)) F A D VV B3 U S T lv N w := by
  obtain ⟨he, hs, hv, hd, ⟨ht, hT⟩, hu⟩ := h
  have hN := he.2.1
  refine ⟨he, hs, hv, hd, ⟨by show rN s + 1 ≤ 2; omega, fun k hk => ?_⟩, hu⟩
  obtain ⟨t0, t1, t2, t3⟩ := hT k hk
  obtain ⟨n1, n2, n3⟩ := hw.2.2.2.2.1.2.2 (rN s) (Nat.le_refl _)
  refine ⟨fun hk2 => ?_, ?_, fun z hz => ?_, t3⟩
  · have hk3 : k < rN s + 1 := hk2
    show B3 (32 * k) = nI (up2 (rT s) (rN s) (cl (nI a)) k) ∧ B3 (32 * k + 1) = nI (up2 (rB s) (rN s) (cl (nI b)) k) ∧ B3 (32 * k + 2) = rW s k ∧ ∀ z, z < 9 → B3 (32 * k + 4 + z) = rL s k z
    rw [cl_nI (show a < 2 ^ 31 by omega), cl_nI (show b < 2 ^ 31 by omega)]
    by_cases z : k = rN s
    · subst z
      rw [up2_s, up2_s]
      exact ⟨b0, b1, by rw [n1]; exact b2, fun z hz => by rw [(n3 z).1]; exact b4 z hz⟩
    · obtain ⟨c0, c1, c2, c3⟩ := t0 (by omega)
      rw [up2_n z, up2_n z, bb _ (by omega), bb _ (by omega), bb _ (by omega)]
      exact ⟨c0, c1, c2, fun z hz => by rw [bb _ (by omega)]; exact c3 z hz⟩
  · rw [bb _ (by omega)]; exact t1
  · rw [bb _ (by omega), bb _ (by omega)]; exact t2 z hz
theorem rs_limit (h : RS s F A D VV B U S T lv N w) {r q : Nat} {v : Int32} (hr : r < rN s) (hq : q < 9) : RS (nLimit s (nI r) (nI q) v) F A D VV (up2 B (32 * r + 4 + q) v) U S T lv N w := by
  obtain ⟨he, hs, hv, hd, ⟨ht, hT⟩, hu⟩ := h
  refine ⟨he, hs, hv, hd, ⟨ht, fun k hk => ?_⟩, hu⟩
  obtain ⟨t0, t1, t2, t3⟩ := hT k hk
  refine ⟨fun hk2 => ?_, ?_, fun z hz => ?_, fun z h9 h20 => ⟨?_, (t3 z h9 h20).2⟩⟩
  · obtain ⟨c0, c1, c2, c3⟩ := t0 hk2
    rw [up2_n (by omega), up2_n (by omega), up2_n (by omega)]
    refine ⟨c0, c1, c2, fun z hz => ?_⟩
    show up2 B (32 * r + 4 + q) v (32 * k + 4 + z) = up3 (rL s) (cl (nI r)) (cl (nI q)) v k z
    rw [cl_nI (show r < 2 ^ 31 by omega), cl_nI (show q < 2 ^ 31 by omega)]
    by_cases y : k = r ∧ z = q
    · obtain ⟨rfl, rfl⟩ := y; rw [up2_s, up3_s]
    · rw [up2_n (fun x => y (by omega)), up3_n y]; exact c3 z hz
  · rw [up2_n (by omega)]; exact t1
  · rw [up2_n (by omega), up2_n (by omega)]; exact t2 z hz
  · show up3 (rL s) (cl (nI r)) (cl (nI q)) v k z = -1
    rw [cl_nI (show q < 2 ^ 31 by omega), up3_n (fun x => by omega)]; exact (t3 z h9 h20).1
theorem rs_wake (h : RS s F A D VV B U S T lv N w) {r : Nat} {a v : Int32} (hr : r < rN s) : RS (nWake s (nI r) a v) F A D VV (up2 (up2 B (32 * r + 2) a) (32 * r + 3) v) U S T lv N w := by
  obtain ⟨he, hs, hv, hd, ⟨ht, hT⟩, hu⟩ := h
  refine ⟨he, hs, hv, hd, ⟨ht, fun k hk => ?_⟩, hu⟩
  obtain ⟨t0, t1, t2, t3⟩ := hT k hk
  refine ⟨fun hk2 => ?_, ?_, fun z hz => ?_, t3⟩
  · obtain ⟨c0, c1, c2, c3⟩ := t0 hk2
    rw [up2_n (by omega), up2_n (by omega), up2_n (by omega), up2_n (by omega)]
    refine ⟨c0, c1, ?_, fun z hz => by rw [up2_n (by omega), up2_n (by omega)]; exact c3 z hz⟩
    show up2 (up2 B (32 * r + 2) a) (32 * r + 3) v (32 * k + 2) = up2 (rW s) (cl (nI r)) a k
    rw [cl_nI (show r < 2 ^ 31 by omega), up2_n (by omega)]
    by_cases y : k = r
    · subst y; rw [up2_s, up2_s]
    · rw [up2_n (by omega), up2_n y]; exact c2
  · show up2 (up2 B (32 * r + 2) a) (32 * r + 3) v (32 * k + 3) = up2 (rE s) (cl (nI r)) v k
    rw [cl_nI (show r < 2 ^ 31 by omega)]
    by_cases y : k = r
    · subst y; rw [up2_s, up2_s]
    · rw [up2_n (by omega), up2_n (by omega), up2_n y]; exact t1
  · rw [up2_n (by omega), up2_n (by omega), up2_n (by omega), up2_n (by omega)]; exact t2 z hz
theorem rs_cure (h : RS s F A D VV B U S T lv N w) {r q : Nat} {v : Int32} (hr : r < rN s) (hq : q < 9) : RS (nCure s (nI r) (nI q) v) F A D VV (up2 B (32 * r + 13 + q) v) U S T lv N w := by
  obtain ⟨he, hs, hv, hd, ⟨ht, hT⟩, hu⟩ := h
  refine ⟨he, hs, hv, hd, ⟨ht, fun k hk => ?_⟩, hu⟩
  obtain ⟨t0, t1, t2, t3⟩ := hT k hk
  refine ⟨fun hk2 => ?_, ?_, fun z hz => ⟨?_, ?_⟩, fun z h9 h20 => ⟨(t3 z h9 h20).1, ?_⟩⟩
  · obtain ⟨c0, c1, c2, c3⟩ := t0 hk2
    rw [up2_n (by omega), up2_n (by omega), up2_n (by omega)]
    exact ⟨c0, c1, c2, fun z hz => by rw [up2_n (by omega)]; exact c3 z hz⟩
  · rw [up2_n (by omega)]; exact t1
  · show up2 B (32 * r + 13 + q) v (32 * k + 13 + z) = up3 (rC s) (cl (nI r)) (cl (nI q)) v k z
    rw [cl_nI (show r < 2 ^ 31 by omega), cl_nI (show q < 2 ^ 31 by omega)]
    by_cases y : k = r ∧ z = q
    · obtain ⟨rfl, rfl⟩ := y; rw [up2_s, up3_s]
    · rw [up2_n (fun x => y (by omega)), up3_n y]; exact (t2 z hz).1
  · rw [up2_n (by omega)]; exact (t2 z hz).2
  · show up3 (rC s) (cl (nI r)) (cl (nI q)) v k z = 0
    rw [cl_nI (show q < 2 ^ 31 by omega), up3_n (fun x => by omega)]; exact (t3 z h9 h20).2
theorem rs_waive (h : RS s F A D VV B U S T lv N w) {r q : Nat} {v : Int32} (hr : r < rN s) (hq : q < 9) (hv1 : v = b01 (!(rV s r q))) : RS (nWaive s (nI r) (nI q)) F A D VV (up2 B (32 * r + 22 + q) v) U S T lv N w := by
  obtain ⟨he, hs, hv, hd, ⟨ht, hT⟩, hu⟩ := h
  refine ⟨he, hs, hv, hd, ⟨ht, fun k hk => ?_⟩, hu⟩
  obtain ⟨t0, t1, t2, t3⟩ := hT k hk
  refine ⟨fun hk2 => ?_, ?_, fun z hz => ⟨?_, ?_⟩, t3⟩
  · obtain ⟨c0, c1, c2, c3⟩ := t0 hk2
    rw [up2_n (by omega), up2_n (by omega), up2_n (by omega)]
    exact ⟨c0, c1, c2, fun z hz => by rw [up2_n (by omega)]; exact c3 z hz⟩
  · rw [up2_n (by omega)]; exact t1
  · rw [up2_n (by omega)]; exact (t2 z hz).1
  · show up2 B (32 * r + 22 + q) v (32 * k + 22 + z) = b01 (up3 (rV s) (cl (nI r)) (cl (nI q)) (!(rV s (cl (nI r)) (cl (nI q)))) k z)
    rw [cl_nI (show r < 2 ^ 31 by omega), cl_nI (show q < 2 ^ 31 by omega)]
    by_cases y : k = r ∧ z = q
    · obtain ⟨rfl, rfl⟩ := y; rw [up2_s, up3_s]; exact hv1
    · rw [up2_n (fun x => y (by omega)), up3_n y]; exact (t2 z hz).2
/-! baskets -/
theorem rs_basket (h : RS s F A D VV B U S T lv N w) (hw : WFs s) (h2 : bN s < 2) {t : Nat} {f p : Int32} (ht : t < oN s) : RS (nBasket s f (nI t) p) F A D VV B (up2 (up2 (up2 U (4 * bN s) f) (4 * bN s + 1) (nI t)) (4 * bN s + 2) p) S T lv N w := by
  obtain ⟨he, hs, hv, hd, hT, hu, hU⟩ := h
  have hN := he.2.1
  refine ⟨he, hs, hv, hd, hT, by show bN s + 1 ≤ 2; omega, fun k hk => ?_⟩
  obtain ⟨u0, u1, u2⟩ := hU k hk
  have n1 := hw.2.2.2.2.2.2.2 (bN s) (Nat.le_refl _)
  rw [up2_n (show 4 * k + 3 ≠ 4 * bN s + 2 by omega), up2_n (show 4 * k + 3 ≠ 4 * bN s + 1 by omega), up2_n (show 4 * k + 3 ≠ 4 * bN s by omega)]
  refine ⟨fun hk2 => ?_, ?_, u2⟩
  · have hk3 : k < bN s + 1 := hk2
    show _ = up2 (bF s) (bN s) f k ∧ _ = nI (up2 (bT s) (bN s) (cl (nI t)) k) ∧ _ = up2 (bP s) (bN s) p k
    rw [cl_nI (show t < 2 ^ 31 by omega)]
    by_cases z : k = bN s
    · subst z
      exact ⟨by rw [up2_n (by omega), up2_n (by omega), up2_s]; exact up2_s.symm, by rw [up2_n (by omega), up2_s]; exact congrArg nI up2_s.symm, by rw [up2_s]; exact up2_s.symm⟩
    · obtain ⟨c0, c1, c2⟩ := u0 (by omega)
      rw [up2_n z, up2_n z, up2_n z]
      exact ⟨by rw [up2_n (by omega), up2_n (by omega), up2_n (by omega)]; exact c0, by rw [up2_n (by omega), up2_n (by omega), up2_n (by omega)]; exact c1, by rw [up2_n (by omega), up2_n (by omega), up2_n (by omega)]; exact c2⟩
  · show _ = up2 (bU s) (bN s) 0 k
    by_cases z : k = bN s
    · subst z; rw [up2_s, u1]; exact n1
    · rw [up2_n z]; exact u1
theorem rs_use (h : RS s F A D VV B U S T lv N w) {k : Nat} {v : Int32} {x : Int64} (hk : k < bN s) (hx : x = v.toInt64) (h0 : 0 ≤ v.toInt) (h1 : v.toInt ≤ w2) (hw2 : w ≤ w2) : RS (nUse s (nI k) x) F A D VV B (up2 U (4 * k + 3) v) S T lv N w2 := by
  obtain ⟨he, hs, hv, hd, hT, hu, hU⟩ := h
  refine ⟨he, hs, hv, hd, hT, hu, fun j hj => ?_⟩
  obtain ⟨u0, u1, u2, u3⟩ := hU j hj
  refine ⟨fun hk2 => ?_, ?_⟩
  · obtain ⟨c0, c1, c2⟩ := u0 hk2
    exact ⟨by rw [up2_n (by omega)]; exact c0, by rw [up2_n (by omega)]; exact c1, by rw [up2_n (by omega)]; exact c2⟩
  · show (up2 U (4 * k + 3) v (4 * j + 3)).toInt64 = up2 (bU s) (cl (nI k)) x j ∧ _
    rw [cl_nI (show k < 2 ^ 31 by omega)]
    by_cases z : j = k
    · subst z; rw [up2_s, up2_s]; exact ⟨hx.symm, h0, h1⟩
    · rw [up2_n (by omega), up2_n z]; exact ⟨u1, u2, by omega⟩
/-! counts over twenty quarters -/
theorem cnt_20 {p : Nat → Bool} {n : Nat} (hn : n ≤ 20) (h : ∀ z, n ≤ z → z < 20 → p z = false) : cnt p 20 = cnt p n := by
  have e := cnt_add p n (20 - n)
  rw [show n + (20 - n) = 20 by omega] at e
  have z0 : cnt (fun i => p (n + i)) (20 - n) = 0 := cnt_0 (fun i hi => h _ (by omega) (by omega))
  rw [e, z0, Nat.add_zero]
end

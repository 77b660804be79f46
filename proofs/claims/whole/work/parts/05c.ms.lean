/-! THE MODEL's arrays and the state -/
def sF (s : ZS) (i : Nat) : Frm := (oS s).getD i ([], 0)
def sD (s : ZS) (t q : Nat) : List Tok := (oD s t q).getD []
def tkAt (kf nf : Nat → Nat) (b : Nat) (t : List Tok) : Prop := ∀ j, j < t.length → kf (b + j) = (t.getD j (0, 0)).1 ∧ nf (b + j) = (t.getD j (0, 0)).2
def b01 (b : Bool) : Int32 := if b = true then 1 else 0
def MSa (A : Nat → Nat → Int32) (f : Nat → Int32) : Prop := ∀ a q, a < 6 → q < 20 → f (20 * a + q) = A a q
def MSs (S : List Frm) (n : Nat) (na : Nat → Nat → Nat) : Prop := n = S.length ∧ ∀ i, i < S.length → na 3 i = (S.getD i ([], 0)).1.length ∧ na 4 i = (S.getD i ([], 0)).2 ∧ tkAt (na 5) (na 6) (64 * i) (S.getD i ([], 0)).1
def MSt (T : ZT) (n : Nat) (na : Nat → Nat → Nat) : Prop := n = T.1 ∧ (∀ t, t < T.1 → na 8 t = T.2.1 t) ∧ ∀ t q, t < 10 → q < 20 → na 9 (20 * t + q) = ((T.2.2 t q).getD []).length ∧ tkAt (na 10) (na 11) (64 * (20 * t + q)) ((T.2.2 t q).getD [])
def MSr (R : ZR) (n : Nat) (na : Nat → Nat → Nat) (ia : Nat → Nat → Int32) : Prop := n = R.1 ∧ ∀ r, r < 6 → na 18 r = R.2.1 r ∧ na 19 r = R.2.2.1 r ∧ ia 21 r = R.2.2.2.2.1 r ∧ ia 22 r = R.2.2.2.2.2.1 r ∧ ∀ q, q < 20 → ia 20 (20 * r + q) = R.2.2.2.1 r q ∧ ia 23 (20 * r + q) = R.2.2.2.2.2.2.1 r q ∧ ia 24 (20 * r + q) = b01 (R.2.2.2.2.2.2.2 r q)
def MSb (B : ZB) (n : Nat) (na : Nat → Nat → Nat) (ia : Nat → Nat → Int32) (la : Nat → Nat → Int64) : Prop := n = B.1 ∧ ∀ b, b < 6 → ia 26 b = B.2.1 b ∧ na 27 b = B.2.2.1 b ∧ ia 28 b = B.2.2.2.1 b ∧ la 29 b = B.2.2.2.2 b
def MS (s : ZS) (ns : Nat → Nat) (na : Nat → Nat → Nat) (ia : Nat → Nat → Int32) (la : Nat → Nat → Int64) : Prop := MSa (oA s) (ia 1) ∧ MSs (oS s) (ns 2) na ∧ MSt (oT s) (ns 7) na ∧ MSr (oR s) (ns 17) na ia ∧ MSb (oB s) (ns 25) na ia la
/-- what the state keeps -/
def FOK (s : ZS) (f : Frm) : Prop := 1 ≤ f.2 ∧ f.2 ≤ 6 ∧ WL (oL s) f.2 f.1 ∧ gtk f.1 ≤ oN s
def WFa (A : Nat → Nat → Int32) : Prop := ∀ a q, a < 6 → q < 20 → wth (A a q) (-1000000) 1000000
def WFt (s : ZS) : Prop := oN s ≤ 10 ∧ (∀ t, t < oN s → 1 ≤ oL s t ∧ oL s t ≤ 6 ∧ oD s t 0 ≠ none ∧ ∀ q f, oD s t q = some f → WL (oL s) (oL s t) f ∧ gtk f ≤ t) ∧ ∀ t q, oN s ≤ t → oD s t q = none
def WFr (s : ZS) : Prop := rN s ≤ 6 ∧ (∀ r, r < rN s → rT s r < oN s ∧ rB s r < oN s ∧ (rW s r = -1 ∨ inN (rW s r) 6) ∧ ∀ q, q < 20 → wth (rL s r q) (-1) 10000 ∧ wth (rC s r q) 0 1000000) ∧ ∀ r, rN s ≤ r → rW s r = -1 ∧ rE s r = 0 ∧ ∀ q, rL s r q = -1 ∧ rC s r q = 0 ∧ rV s r q = false
def WFb (s : ZS) : Prop := bN s ≤ 6 ∧ (∀ b, b < bN s → bT s b < oN s ∧ wth (bF s b) 0 1000000 ∧ wth (bP s b) 0 100) ∧ ∀ b, bN s ≤ b → bU s b = 0
def WFs (s : ZS) : Prop := (oS s).length ≤ 8 ∧ (∀ i, i < (oS s).length → FOK s (sF s i)) ∧ WFt s ∧ WFa (oA s) ∧ WFr s ∧ WFb s
def MO (G : zG) (h0 h : zH) (m : Nat) (ad : Nat → Nat) (s : ZS) (k : Nat) : Prop := ∃ (ns : Nat → Nat) (na : Nat → Nat → Nat) (ia : Nat → Nat → Int32) (la : Nat → Nat → Int64), MR G h0 h m ad ns na ia la ∧ MS s ns na ia la ∧ ns 0 = k
theorem MS.thr {s : ZS} {ns : Nat → Nat} {na : Nat → Nat → Nat} {ia : Nat → Nat → Int32} {la : Nat → Nat → Int64} (h : MS s ns na ia la) (v : Nat) : MS s (upN ns 0 v) na ia la := h
theorem ix20 {a q i j : Nat} (hq : q < 20) (hj : j < 20) : 20 * a + q = 20 * i + j ↔ a = i ∧ q = j := by omega
theorem cl_nI {j : Nat} (h : j < 2 ^ 31) : cl (nI j) = j := nI_clamp h
theorem MSa.put {A : Nat → Nat → Int32} {f : Nat → Int32} (h : MSa A f) {a q : Nat} {v : Int32} (hq : q < 20) : MSa (up3 A a q v) (up2 f (20 * a + q) v) := fun i j hi hj => by
  by_cases z : i = a ∧ j = q
  · obtain ⟨rfl, rfl⟩ := z; rw [up2_s, up3_s]
  · rw [up2_n (fun y => z ((ix20 hj hq).mp y)), up3_n z]; exact h i j hi hj

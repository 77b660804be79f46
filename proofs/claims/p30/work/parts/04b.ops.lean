/-! SPEC: the state and the calls -/
def inB (x : Int32) (n : Nat) : Bool := decide (0 ≤ x ∧ x < nI n)
abbrev inN (x : Int32) (n : Nat) : Prop := inB x n = true
theorem inN_iff {x : Int32} {n : Nat} : inN x n ↔ (0 ≤ x ∧ x < nI n) := decide_eq_true_iff
theorem inN.nat {x : Int32} {n : Nat} (h : inN x n) (hn : n < 2 ^ 31) : ∃ j, j < n ∧ x = nI j := i32_in hn (inN_iff.mp h).1 (inN_iff.mp h).2
theorem inN_nI {j n : Nat} (hj : j < 2 ^ 31) (hn : n < 2 ^ 31) : inN (nI j) n ↔ j < n := ⟨fun h => (nn_lt hj hn).mp (inN_iff.mp h).2, fun h => inN_iff.mpr ⟨(nk_ge (y := 0) 0 rfl hj (by decide)).mpr (Nat.zero_le _), (nn_lt hj hn).mpr h⟩⟩
abbrev Frm : Type := List Tok × Nat
abbrev ZT : Type := Nat × (Nat → Nat) × (Nat → Nat → Option (List Tok))
abbrev ZR : Type := Nat × (Nat → Nat) × (Nat → Nat) × (Nat → Nat → Int32) × (Nat → Int32) × (Nat → Int32) × (Nat → Nat → Int32) × (Nat → Nat → Bool)
abbrev ZB : Type := Nat × (Nat → Int32) × (Nat → Nat) × (Nat → Int32) × (Nat → Int64)
abbrev ZS : Type := (Nat → Nat → Int32) × List Frm × ZT × ZR × ZB
abbrev oA (s : ZS) : Nat → Nat → Int32 := s.1
abbrev oS (s : ZS) : List Frm := s.2.1
abbrev oT (s : ZS) : ZT := s.2.2.1
abbrev oR (s : ZS) : ZR := s.2.2.2.1
abbrev oB (s : ZS) : ZB := s.2.2.2.2
abbrev oN (s : ZS) : Nat := (oT s).1
abbrev oL (s : ZS) : Nat → Nat := (oT s).2.1
abbrev oD (s : ZS) : Nat → Nat → Option (List Tok) := (oT s).2.2
abbrev rN (s : ZS) : Nat := (oR s).1
abbrev rT (s : ZS) : Nat → Nat := (oR s).2.1
abbrev rB (s : ZS) : Nat → Nat := (oR s).2.2.1
abbrev rL (s : ZS) : Nat → Nat → Int32 := (oR s).2.2.2.1
abbrev rW (s : ZS) : Nat → Int32 := (oR s).2.2.2.2.1
abbrev rE (s : ZS) : Nat → Int32 := (oR s).2.2.2.2.2.1
abbrev rC (s : ZS) : Nat → Nat → Int32 := (oR s).2.2.2.2.2.2.1
abbrev rV (s : ZS) : Nat → Nat → Bool := (oR s).2.2.2.2.2.2.2
abbrev bN (s : ZS) : Nat := (oB s).1
abbrev bF (s : ZS) : Nat → Int32 := (oB s).2.1
abbrev bT (s : ZS) : Nat → Nat := (oB s).2.2.1
abbrev bP (s : ZS) : Nat → Int32 := (oB s).2.2.2.1
abbrev bU (s : ZS) : Nat → Int64 := (oB s).2.2.2.2
/-- the start -/
def z0 : ZS := (fun _ _ => 0, [], (0, fun _ => 0, fun _ _ => none), (0, fun _ => 0, fun _ => 0, fun _ _ => -1, fun _ => -1, fun _ => 0, fun _ _ => 0, fun _ _ => false), (0, fun _ => 0, fun _ => 0, fun _ => 0, fun _ => 0))
def oAL (s : ZS) : Nat → Nat → Int64 := fun a q => (oA s a q).toInt64
/-- the values of the terms -/
def oV (s : ZS) : Nat → Nat → Int64 := sval (oAL s) (oD s) (oN s)
def up3 {α : Type} (f : Nat → Nat → α) (a b : Nat) (v : α) : Nat → Nat → α := fun i j => if i = a ∧ j = b then v else f i j
theorem up3_s {α : Type} {f : Nat → Nat → α} {a b : Nat} {v : α} : up3 f a b v a b = v := if_pos ⟨rfl, rfl⟩
theorem up3_n {α : Type} {f : Nat → Nat → α} {a b i j : Nat} {v : α} (h : ¬ (i = a ∧ j = b)) : up3 f a b v i j = f i j := if_neg h
def up2 {α : Type} (f : Nat → α) (k : Nat) (v : α) : Nat → α := fun j => if j = k then v else f j
theorem up2_s {α : Type} {f : Nat → α} {k : Nat} {v : α} : up2 f k v k = v := if_pos rfl
theorem up2_n {α : Type} {f : Nat → α} {k j : Nat} {v : α} (h : j ≠ k) : up2 f k v j = f j := if_neg h
abbrev cl (x : Int32) : Nat := x.toNatClampNeg
def wB (x lo hi : Int32) : Bool := decide (lo ≤ x ∧ x ≤ hi)
abbrev wth (x lo hi : Int32) : Prop := wB x lo hi = true
theorem wth_iff {x lo hi : Int32} : wth x lo hi ↔ (lo ≤ x ∧ x ≤ hi) := decide_eq_true_iff
/-- the uppermost formula, the one below -/
def top1 (s : ZS) : Frm := (oS s).getD ((oS s).length - 1) ([], 0)
def top2 (s : ZS) : Frm := (oS s).getD ((oS s).length - 2) ([], 0)
/-! codes -/
def kAmount (a q v : Int32) : Nat := if inN a 6 ∧ inN q 20 then (if wth v (-1000000) 1000000 then 0 else 2) else 1
def kAccount (s : ZS) (a : Int32) : Nat := if inN a 6 then (if (oS s).length = 8 then 2 else 0) else 1
def kNumber (s : ZS) (v : Int32) : Nat := if wth v 0 1000000 then (if (oS s).length = 8 then 2 else 0) else 1
def kTerm (s : ZS) (t : Int32) : Nat := if inN t (oN s) then (if (oS s).length = 8 ∨ oL s (cl t) = 6 then 2 else 0) else 1
def kJoin (s : ZS) (k : Int32) : Nat := if wth k 0 3 then (if (oS s).length < 2 ∨ (top2 s).2 = 6 ∨ (top1 s).2 = 6 then 2 else 0) else 1
def kShare (s : ZS) (p : Int32) : Nat := if wth p 0 100 then (if (oS s).length = 0 ∨ (top1 s).2 = 6 then 2 else 0) else 1
def kYear (s : ZS) : Nat := if (oS s).length = 0 ∨ (top1 s).2 = 6 then 1 else 0
def kDefine (s : ZS) : Nat := if (oS s).length = 0 ∨ oN s = 10 then 1 else 0
def kAmend (s : ZS) (t q : Int32) : Nat := if inN t (oN s) ∧ inN q 20 then (if (oS s).length = 0 ∨ oL s (cl t) < (top1 s).2 ∨ cl t < gtk (top1 s).1 then 2 else 0) else 1
def kIsT (s : ZS) (t : Int32) : Nat := if inN t (oN s) then 0 else 1
def kIsTQ (s : ZS) (t q : Int32) : Nat := if inN t (oN s) ∧ inN q 20 then 0 else 1
def tHeld (s : ZS) (t q : Nat) : List Tok := (shd (oD s t) q).getD []
def kChar (s : ZS) (t q j : Int32) : Nat := if inN t (oN s) ∧ inN q 20 then (if inN j (txtOf (tHeld s (cl t) (cl q))).length then 0 else 1) else 1
def kTest (s : ZS) (a b : Int32) : Nat := if inN a (oN s) ∧ inN b (oN s) then (if rN s = 6 then 2 else 0) else 1
def kLimit (s : ZS) (r q v : Int32) : Nat := if inN r (rN s) ∧ inN q 20 then (if wth v 0 10000 then 0 else 2) else 1
def kWake (s : ZS) (r a v : Int32) : Nat := if inN r (rN s) ∧ (a = -1 ∨ inN a 6) then (if wth v (-1000000) 1000000 then 0 else 2) else 1
/-- the cures in four quarters from q - 3 + i on, the quarters that there are alone -/
def cuF (c : Nat → Int32) (q i : Nat) : Nat → Nat
  | 0 => 0
  | n + 1 => cuF c q i n + (if 3 ≤ q + i + n ∧ q + i + n < 23 ∧ ¬ c (q + i + n - 3) = 0 then 1 else 0)
def cuLeft (c : Nat → Int32) (q : Nat) : Prop := ∀ i, i < 4 → cuF c q i 4 < 2
def kCure (s : ZS) (r q v : Int32) : Nat := if inN r (rN s) ∧ inN q 20 then (if wth v 1 1000000 then (if ¬ rC s (cl r) (cl q) = 0 ∨ ¬ (cuF (rC s (cl r)) (cl q) 0 4 < 2 ∧ cuF (rC s (cl r)) (cl q) 1 4 < 2 ∧ cuF (rC s (cl r)) (cl q) 2 4 < 2 ∧ cuF (rC s (cl r)) (cl q) 3 4 < 2) then 3 else 0) else 2) else 1
def kIsRQ (s : ZS) (r q : Int32) : Nat := if inN r (rN s) ∧ inN q 20 then 0 else 1
/-- the limit that holds -/
def lmA (l : Nat → Int32) : Nat → Int32
  | 0 => l 0
  | q + 1 => if l (q + 1) = -1 then lmA l q else l (q + 1)
def rmBot (s : ZS) (r q : Nat) : Int64 := oV s (rB s r) q + (rC s r q).toInt64
def kRoom (s : ZS) (r q : Int32) : Nat := if inN r (rN s) ∧ inN q 20 then (if lmA (rL s (cl r)) (cl q) = -1 ∨ rmBot s (cl r) (cl q) ≤ 0 then 2 else 0) else 1
def kBasket (s : ZS) (f t p : Int32) : Nat := if wth f 0 1000000 ∧ wth p 0 100 then (if inN t (oN s) then (if bN s = 6 then 3 else 0) else 2) else 1
def kIsBQ (s : ZS) (b q : Int32) : Nat := if inN b (bN s) ∧ inN q 20 then 0 else 1
def bSize (s : ZS) (b q : Nat) : Int64 := if 0 < oV s (bT s b) q then (bF s b).toInt64 + zfd (oV s (bT s b) q * (bP s b).toInt64) else (bF s b).toInt64
def kUse (s : ZS) (b q v : Int32) : Nat := if inN b (bN s) ∧ inN q 20 then (if wth v 1 1000000 then (if bSize s (cl b) (cl q) < bU s (cl b) + v.toInt64 then 3 else 0) else 2) else 1
def kRefill (s : ZS) (b v : Int32) : Nat := if inN b (bN s) then (if wth v 1 1000000 then (if bU s (cl b) < v.toInt64 then 3 else 0) else 2) else 1
/-! answers and next states -/
def nAmount (s : ZS) (a q v : Int32) : ZS := (up3 (oA s) (cl a) (cl q) v, s.2)
def nPush (s : ZS) (f : Frm) : ZS := (s.1, oS s ++ [f], s.2.2)
def fJoin (s : ZS) (k : Int32) : Frm := ((top2 s).1 ++ (top1 s).1 ++ [(cl k, 0)], 1 + max (top2 s).2 (top1 s).2)
def nJoin (s : ZS) (k : Int32) : ZS := (s.1, (oS s).dropLast.dropLast ++ [fJoin s k], s.2.2)
def nShare (s : ZS) (p : Int32) : ZS := (s.1, (oS s).dropLast ++ [((top1 s).1 ++ [(7, cl p)], (top1 s).2 + 1)], s.2.2)
def nYear (s : ZS) : ZS := (s.1, (oS s).dropLast ++ [((top1 s).1 ++ [(8, 0)], (top1 s).2 + 1)], s.2.2)
def nClear (s : ZS) : ZS := (s.1, [], s.2.2)
def nDefine (s : ZS) : ZS := (s.1, (oS s).dropLast, (oN s + 1, up2 (oL s) (oN s) (top1 s).2, up3 (oD s) (oN s) 0 (some (top1 s).1)), s.2.2.2)
def nAmend (s : ZS) (t q : Int32) : ZS := (s.1, (oS s).dropLast, (oN s, oL s, up3 (oD s) (cl t) (cl q) (some (top1 s).1)), s.2.2.2)
def cnt (p : Nat → Bool) : Nat → Nat
  | 0 => 0
  | n + 1 => cnt p n + (if p n = true then 1 else 0)
def nTest (s : ZS) (a b : Int32) : ZS := (s.1, s.2.1, s.2.2.1, (rN s + 1, up2 (rT s) (rN s) (cl a), up2 (rB s) (rN s) (cl b), rL s, rW s, rE s, rC s, rV s), s.2.2.2.2)
def nLimit (s : ZS) (r q v : Int32) : ZS := (s.1, s.2.1, s.2.2.1, (rN s, rT s, rB s, up3 (rL s) (cl r) (cl q) v, rW s, rE s, rC s, rV s), s.2.2.2.2)
def nWake (s : ZS) (r a v : Int32) : ZS := (s.1, s.2.1, s.2.2.1, (rN s, rT s, rB s, rL s, up2 (rW s) (cl r) a, up2 (rE s) (cl r) v, rC s, rV s), s.2.2.2.2)
def nCure (s : ZS) (r q v : Int32) : ZS := (s.1, s.2.1, s.2.2.1, (rN s, rT s, rB s, rL s, rW s, rE s, up3 (rC s) (cl r) (cl q) v, rV s), s.2.2.2.2)
def nWaive (s : ZS) (r q : Int32) : ZS := (s.1, s.2.1, s.2.2.1, (rN s, rT s, rB s, rL s, rW s, rE s, rC s, up3 (rV s) (cl r) (cl q) (!(rV s (cl r) (cl q)))), s.2.2.2.2)
abbrev dozes (s : ZS) (r q : Nat) : Prop := ¬ rW s r = -1 ∧ oA s (cl (rW s r)) q < rE s r
abbrev kept (s : ZS) (r q : Nat) (money : Int64) : Prop := 0 < oV s (rB s r) q + money ∧ 100 * oV s (rT s r) q ≤ (lmA (rL s r) q).toInt64 * (oV s (rB s r) q + money)
def vState (s : ZS) (r q : Nat) : Nat :=
  if dozes s r q ∨ lmA (rL s r) q = -1 then 0 else if kept s r q 0 then 1 else if kept s r q (rC s r q).toInt64 then 2 else if rV s r q = true then 3 else 4
def vBroken (s : ZS) : Nat → Nat
  | 0 => 0
  | r + 1 => vBroken s r + cnt (fun q => decide (vState s r q = 4)) 20
def vRoom (s : ZS) (r q : Nat) : Int64 := zfd ((lmA (rL s r) q).toInt64 * rmBot s r q) - oV s (rT s r) q
def nBasket (s : ZS) (f t p : Int32) : ZS := (s.1, s.2.1, s.2.2.1, s.2.2.2.1, (bN s + 1, up2 (bF s) (bN s) f, up2 (bT s) (bN s) (cl t), up2 (bP s) (bN s) p, up2 (bU s) (bN s) 0))
def nUse (s : ZS) (b : Int32) (v : Int64) : ZS := (s.1, s.2.1, s.2.2.1, s.2.2.2.1, (bN s, bF s, bT s, bP s, up2 (bU s) (cl b) v))

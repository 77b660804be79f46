/-! SPEC: formulas as rows of tokens (kind, number): 0–3 joins, 4 account, 5 number, 6 term, 7 share, 8 year -/
abbrev Tok : Type := Nat × Nat
def sjn (k : Nat) (a b : Int64) : Int64 := if k = 0 then a + b else if k = 1 then a - b else if k = 2 then (if a < b then a else b) else (if a < b then b else a)
def syr (r : Nat → Int64) (q : Nat) : Nat → Int64
  | 0 => 0
  | b + 1 => syr r q b + (if b ≤ q then r (q - b) else 0)
def lN64 (n : Nat) : Int64 := (nI n).toInt64
/-- one token over the stack of rows -/
def sev (A V : Nat → Nat → Int64) (k n : Nat) (s : List (Nat → Int64)) : List (Nat → Int64) :=
  if k = 4 then A n :: s
  else if k = 5 then (fun _ => lN64 n) :: s
  else if k = 6 then V n :: s
  else if k = 7 then (fun q => zfd (s.headD (fun _ => 0) q * lN64 n)) :: s.tail
  else if k = 8 then (fun q => syr (s.headD (fun _ => 0)) q 4) :: s.tail
  else (fun q => sjn k (s.tail.headD (fun _ => 0) q) (s.headD (fun _ => 0) q)) :: s.tail.tail
def evs (A V : Nat → Nat → Int64) : List Tok → List (Nat → Int64) → List (Nat → Int64)
  | [], s => s
  | t :: ts, s => evs A V ts (sev A V t.1 t.2 s)
theorem evs_app (A V : Nat → Nat → Int64) (a b : List Tok) (s : List (Nat → Int64)) : evs A V (a ++ b) s = evs A V b (evs A V a s) := by
  induction a generalizing s with
  | nil => rfl
  | cons t ts ih => exact ih _
def rowOf (A V : Nat → Nat → Int64) (t : List Tok) : Nat → Int64 := (evs A V t []).headD (fun _ => 0)
/-- one token over the stack of texts -/
def sjt (k : Nat) (a b : List Nat) : List Nat := (if k = 2 then [109, 105, 110] else if k = 3 then [109, 97, 120] else []) ++ [40] ++ a ++ (if k = 0 then [32, 43, 32] else if k = 1 then [32, 45, 32] else [44, 32]) ++ b ++ [41]
def stx (k n : Nat) (s : List (List Nat)) : List (List Nat) :=
  if k = 4 then ([65] ++ dgl n) :: s
  else if k = 5 then dgl n :: s
  else if k = 6 then ([84] ++ dgl n) :: s
  else if k = 7 then (dgl n ++ [37, 32, 111, 102, 32] ++ s.headD []) :: s.tail
  else if k = 8 then ([121, 101, 97, 114, 40] ++ s.headD [] ++ [41]) :: s.tail
  else sjt k (s.tail.headD []) (s.headD []) :: s.tail.tail
def txs : List Tok → List (List Nat) → List (List Nat)
  | [], s => s
  | t :: ts, s => txs ts (stx t.1 t.2 s)
theorem txs_app (a b : List Tok) (s : List (List Nat)) : txs (a ++ b) s = txs b (txs a s) := by
  induction a generalizing s with
  | nil => rfl
  | cons t ts ih => exact ih _
def txtOf (t : List Tok) : List Nat := (txs t []).headD []
/-- the greatest term named, one more; 0 if none is -/
def gtk : List Tok → Nat
  | [] => 0
  | t :: ts => max (if t.1 = 6 then t.2 + 1 else 0) (gtk ts)
theorem gtk_app (a b : List Tok) : gtk (a ++ b) = max (gtk a) (gtk b) := by
  induction a with
  | nil => simp [gtk]
  | cons t ts ih => simp only [List.cons_append, gtk, ih]; omega
/-- a formula of a level of n at most; terms below N, their levels by tl -/
def WL (tl : Nat → Nat) : Nat → List Tok → Prop
  | 0, _ => False
  | n + 1, t => (∃ a, a < 6 ∧ t = [(4, a)]) ∨ (∃ v, v ≤ 1000000 ∧ t = [(5, v)]) ∨ (∃ k, k < 10 ∧ tl k ≤ n ∧ 1 ≤ tl k ∧ t = [(6, k)]) ∨ (∃ k a b, k < 4 ∧ WL tl n a ∧ WL tl n b ∧ t = a ++ b ++ [(k, 0)]) ∨ (∃ p a, p ≤ 100 ∧ WL tl n a ∧ t = a ++ [(7, p)]) ∨ (∃ a, WL tl n a ∧ t = a ++ [(8, 0)])
theorem WL.up1 {tl : Nat → Nat} {n : Nat} {t : List Tok} (h : WL tl n t) : WL tl (n + 1) t := by
  induction n generalizing t with
  | zero => exact absurd h id
  | succ n ih =>
    rcases h with h | h | ⟨k, h1, h2, h3, h4⟩ | ⟨k, a, b, h1, h2, h3, h4⟩ | ⟨p, a, h1, h2, h3⟩ | ⟨a, h1, h2⟩
    · exact Or.inl h
    · exact Or.inr (Or.inl h)
    · exact Or.inr (Or.inr (Or.inl ⟨k, h1, by omega, h3, h4⟩))
    · exact Or.inr (Or.inr (Or.inr (Or.inl ⟨k, a, b, h1, ih h2, ih h3, h4⟩)))
    · exact Or.inr (Or.inr (Or.inr (Or.inr (Or.inl ⟨p, a, h1, ih h2, h3⟩))))
    · exact Or.inr (Or.inr (Or.inr (Or.inr (Or.inr ⟨a, ih h1, h2⟩))))
theorem WL.up {tl : Nat → Nat} {n m : Nat} {t : List Tok} (h : WL tl n t) (hm : n ≤ m) : WL tl m t := by
  induction m with
  | zero =>
    have : n = 0 := by omega
    subst this; exact h
  | succ m ih =>
    by_cases q : n = m + 1
    · subst q; exact h
    · exact (ih (by omega)).up1
/-- other terms may be made meanwhile -/
theorem WL.tl {tl tl2 : Nat → Nat} {n N : Nat} {t : List Tok} (h : WL tl n t) (hg : gtk t ≤ N) (he : ∀ k, k < N → tl2 k = tl k) : WL tl2 n t := by
  induction n generalizing t with
  | zero => exact absurd h id
  | succ n ih =>
    rcases h with h | h | ⟨k, h1, h2, h3, h4⟩ | ⟨k, a, b, h1, h2, h3, h4⟩ | ⟨p, a, h1, h2, h3⟩ | ⟨a, h1, h2⟩
    · exact Or.inl h
    · exact Or.inr (Or.inl h)
    · have : tl2 k = tl k := he k (by rw [h4] at hg; simp [gtk] at hg; omega)
      exact Or.inr (Or.inr (Or.inl ⟨k, h1, by omega, by omega, h4⟩))
    · rw [h4, gtk_app, gtk_app] at hg
      exact Or.inr (Or.inr (Or.inr (Or.inl ⟨k, a, b, h1, ih h2 (by omega), ih h3 (by omega), h4⟩)))
    · rw [h3, gtk_app] at hg
      exact Or.inr (Or.inr (Or.inr (Or.inr (Or.inl ⟨p, a, h1, ih h2 (by omega), h3⟩))))
    · rw [h2, gtk_app] at hg
      exact Or.inr (Or.inr (Or.inr (Or.inr (Or.inr ⟨a, ih h1 (by omega), h2⟩))))
/-- a formula puts one row onto the stack -/
theorem WL.ev {tl : Nat → Nat} {n : Nat} {t : List Tok} (h : WL tl n t) (A V : Nat → Nat → Int64) (s : List (Nat → Int64)) : evs A V t s = rowOf A V t :: s := by
  induction n generalizing t s with
  | zero => exact absurd h id
  | succ n ih =>
    rcases h with ⟨k, h1, rfl⟩ | ⟨k, h1, rfl⟩ | ⟨k, h1, h2, h3, rfl⟩ | ⟨k, a, b, h1, h2, h3, rfl⟩ | ⟨p, a, h1, h2, rfl⟩ | ⟨a, h1, rfl⟩
    · rfl
    · rfl
    · rfl
    · unfold rowOf
      rw [evs_app, evs_app, ih h2, ih h3, evs_app, evs_app, ih h2, ih h3]
      simp only [evs, sev, if_neg (show ¬ k = 4 by omega), if_neg (show ¬ k = 5 by omega), if_neg (show ¬ k = 6 by omega), if_neg (show ¬ k = 7 by omega), if_neg (show ¬ k = 8 by omega), List.tail_cons, List.headD_cons]
    · unfold rowOf
      rw [evs_app, ih h2, evs_app, ih h2]; rfl
    · unfold rowOf
      rw [evs_app, ih h1, evs_app, ih h1]; rfl
theorem row_join {tl : Nat → Nat} {n k : Nat} {a b : List Tok} (ha : WL tl n a) (hb : WL tl n b) (hk : k < 4) (A V : Nat → Nat → Int64) : rowOf A V (a ++ b ++ [(k, 0)]) = fun q => sjn k (rowOf A V a q) (rowOf A V b q) := by
  conv => lhs; unfold rowOf
  rw [evs_app, evs_app, ha.ev, hb.ev]
  simp only [evs, sev, if_neg (show ¬ k = 4 by omega), if_neg (show ¬ k = 5 by omega), if_neg (show ¬ k = 6 by omega), if_neg (show ¬ k = 7 by omega), if_neg (show ¬ k = 8 by omega), List.tail_cons, List.headD_cons]
theorem row_share {tl : Nat → Nat} {n p : Nat} {a : List Tok} (ha : WL tl n a) (A V : Nat → Nat → Int64) : rowOf A V (a ++ [(7, p)]) = fun q => zfd (rowOf A V a q * lN64 p) := by
  conv => lhs; unfold rowOf
  rw [evs_app, ha.ev]; rfl
theorem row_year {tl : Nat → Nat} {n : Nat} {a : List Tok} (ha : WL tl n a) (A V : Nat → Nat → Int64) : rowOf A V (a ++ [(8, 0)]) = fun q => syr (rowOf A V a) q 4 := by
  conv => lhs; unfold rowOf
  rw [evs_app, ha.ev]; rfl
theorem WL.tx {tl : Nat → Nat} {n : Nat} {t : List Tok} (h : WL tl n t) (s : List (List Nat)) : txs t s = txtOf t :: s := by
  induction n generalizing t s with
  | zero => exact absurd h id
  | succ n ih =>
    rcases h with ⟨k, h1, rfl⟩ | ⟨k, h1, rfl⟩ | ⟨k, h1, h2, h3, rfl⟩ | ⟨k, a, b, h1, h2, h3, rfl⟩ | ⟨p, a, h1, h2, rfl⟩ | ⟨a, h1, rfl⟩
    · rfl
    · rfl
    · rfl
    · unfold txtOf
      rw [txs_app, txs_app, ih h2, ih h3, txs_app, txs_app, ih h2, ih h3]
      simp only [txs, stx, if_neg (show ¬ k = 4 by omega), if_neg (show ¬ k = 5 by omega), if_neg (show ¬ k = 6 by omega), if_neg (show ¬ k = 7 by omega), if_neg (show ¬ k = 8 by omega), List.tail_cons, List.headD_cons]
    · unfold txtOf
      rw [txs_app, ih h2, txs_app, ih h2]; rfl
    · unfold txtOf
      rw [txs_app, ih h1, txs_app, ih h1]; rfl
theorem txt_join {tl : Nat → Nat} {n k : Nat} {a b : List Tok} (ha : WL tl n a) (hb : WL tl n b) (hk : k < 4) : txtOf (a ++ b ++ [(k, 0)]) = sjt k (txtOf a) (txtOf b) := by
  conv => lhs; unfold txtOf
  rw [txs_app, txs_app, ha.tx, hb.tx]
  simp only [txs, stx, if_neg (show ¬ k = 4 by omega), if_neg (show ¬ k = 5 by omega), if_neg (show ¬ k = 6 by omega), if_neg (show ¬ k = 7 by omega), if_neg (show ¬ k = 8 by omega), List.tail_cons, List.headD_cons]
theorem txt_share {tl : Nat → Nat} {n p : Nat} {a : List Tok} (ha : WL tl n a) : txtOf (a ++ [(7, p)]) = dgl p ++ [37, 32, 111, 102, 32] ++ txtOf a := by
  conv => lhs; unfold txtOf
  rw [txs_app, ha.tx]; rfl
theorem txt_year {tl : Nat → Nat} {n : Nat} {a : List Tok} (ha : WL tl n a) : txtOf (a ++ [(8, 0)]) = [121, 101, 97, 114, 40] ++ txtOf a ++ [41] := by
  conv => lhs; unfold txtOf
  rw [txs_app, ha.tx]; rfl
/-! bounds -/
theorem WL.len {tl : Nat → Nat} {n : Nat} {t : List Tok} (h : WL tl n t) : 1 ≤ t.length ∧ t.length + 1 ≤ 2 ^ n := by
  induction n generalizing t with
  | zero => exact absurd h id
  | succ n ih =>
    have h2n : 2 ≤ 2 ^ (n + 1) := by
      have : 0 < 2 ^ n := Nat.pow_pos (by decide)
      rw [Nat.pow_succ]; omega
    rcases h with ⟨k, h1, rfl⟩ | ⟨k, h1, rfl⟩ | ⟨k, h1, h2, h3, rfl⟩ | ⟨k, a, b, h1, h2, h3, rfl⟩ | ⟨p, a, h1, h2, rfl⟩ | ⟨a, h1, rfl⟩
    · exact ⟨Nat.le_refl _, h2n⟩
    · exact ⟨Nat.le_refl _, h2n⟩
    · exact ⟨Nat.le_refl _, h2n⟩
    · have a1 := ih h2; have a2 := ih h3
      rw [Nat.pow_succ]; simp only [List.length_append, List.length_cons, List.length_nil]; omega
    · have a1 := ih h2
      rw [Nat.pow_succ]; simp only [List.length_append, List.length_cons, List.length_nil]; omega
    · have a1 := ih h1
      rw [Nat.pow_succ]; simp only [List.length_append, List.length_cons, List.length_nil]; omega
theorem WL.len63 {tl : Nat → Nat} {n : Nat} {t : List Tok} (h : WL tl n t) (hn : n ≤ 6) : 1 ≤ t.length ∧ t.length ≤ 63 := by
  have a := (h.up hn).len
  omega
theorem dg_le7 {v : Nat} (h : v ≤ 1000000) : sb_dg v ≤ 7 := by
  unfold sb_dg; repeat' split <;> try omega
theorem dg_le3 {v : Nat} (h : v ≤ 100) : sb_dg v ≤ 3 := by
  unfold sb_dg; repeat' split <;> try omega
theorem dg_le1 {v : Nat} (h : v < 10) : sb_dg v = 1 := by
  unfold sb_dg; rw [if_pos h]
theorem sjt_len (k : Nat) (a b : List Nat) : (sjt k a b).length ≤ a.length + b.length + 7 := by
  unfold sjt
  simp only [List.length_append, List.length_cons, List.length_nil]
  repeat' split
  all_goals simp only [List.length_cons, List.length_nil]
  all_goals omega
theorem WL.txl {tl : Nat → Nat} {n : Nat} {t : List Tok} (h : WL tl n t) : (txtOf t).length + 7 ≤ 7 * 2 ^ n := by
  induction n generalizing t with
  | zero => exact absurd h id
  | succ n ih =>
    have h2n : 0 < 2 ^ n := Nat.pow_pos (by decide)
    rcases h with ⟨k, h1, rfl⟩ | ⟨k, h1, rfl⟩ | ⟨k, h1, h2, h3, rfl⟩ | ⟨k, a, b, h1, h2, h3, rfl⟩ | ⟨p, a, h1, h2, rfl⟩ | ⟨a, h1, rfl⟩
    · show ([65] ++ dgl k).length + 7 ≤ _
      rw [List.length_append, dgl_len, dg_le1 (by omega), Nat.pow_succ]; simp only [List.length_cons, List.length_nil]; omega
    · show (dgl k).length + 7 ≤ _
      have := dg_le7 h1
      rw [dgl_len, Nat.pow_succ]; omega
    · show ([84] ++ dgl k).length + 7 ≤ _
      rw [List.length_append, dgl_len, dg_le1 h1, Nat.pow_succ]; simp only [List.length_cons, List.length_nil]; omega
    · have a1 := ih h2; have a2 := ih h3
      rw [txt_join h2 h3 h1, Nat.pow_succ]
      have := sjt_len k (txtOf a) (txtOf b)
      omega
    · have a1 := ih h2
      have := dg_le3 h1
      have n1 : 2 ≤ 2 ^ n := by
        cases n with
        | zero => exact absurd h2 id
        | succ n =>
          have : 0 < 2 ^ n := Nat.pow_pos (by decide)
          rw [Nat.pow_succ]; omega
      rw [txt_share h2, Nat.pow_succ]; simp only [List.length_append, dgl_len, List.length_cons, List.length_nil]; omega
    · have a1 := ih h1
      rw [txt_year h1, Nat.pow_succ]; simp only [List.length_append, List.length_cons, List.length_nil]; omega
theorem WL.txl6 {tl : Nat → Nat} {n : Nat} {t : List Tok} (h : WL tl n t) (hn : n ≤ 6) : (txtOf t).length ≤ 441 := by
  have a := (h.up hn).txl
  omega
theorem asc_app {a b : List Nat} (ha : asc a) (hb : asc b) : asc (a ++ b) := fun c hc => by
  rcases List.mem_append.mp hc with h | h
  · exact ha c h
  · exact hb c h
theorem asc_lit {a : List Nat} (h : a.all (fun c => decide (c < 128)) = true) : asc a := fun c hc => by
  have := List.all_eq_true.mp h c hc
  simpa using this
theorem asc_sjt (k : Nat) {a b : List Nat} (ha : asc a) (hb : asc b) : asc (sjt k a b) := by
  unfold sjt
  refine asc_app (asc_app (asc_app (asc_app (asc_app ?_ (asc_lit rfl)) ha) ?_) hb) (asc_lit rfl)
  · repeat' split
    all_goals exact asc_lit rfl
  · repeat' split
    all_goals exact asc_lit rfl
theorem WL.txa {tl : Nat → Nat} {n : Nat} {t : List Tok} (h : WL tl n t) : asc (txtOf t) := by
  induction n generalizing t with
  | zero => exact absurd h id
  | succ n ih =>
    rcases h with ⟨k, h1, rfl⟩ | ⟨k, h1, rfl⟩ | ⟨k, h1, h2, h3, rfl⟩ | ⟨k, a, b, h1, h2, h3, rfl⟩ | ⟨p, a, h1, h2, rfl⟩ | ⟨a, h1, rfl⟩
    · exact asc_app (asc_lit rfl) (dgl_asc k)
    · exact dgl_asc k
    · exact asc_app (asc_lit rfl) (dgl_asc k)
    · rw [txt_join h2 h3 h1]; exact asc_sjt k (ih h2) (ih h3)
    · rw [txt_share h2]; exact asc_app (asc_app (dgl_asc p) (asc_lit rfl)) (ih h2)
    · rw [txt_year h1]; exact asc_app (asc_app (asc_lit rfl) (ih h1)) (asc_lit rfl)
/-- rows of formulas that name terms below N alone rest on those -/
theorem WL.congr {tl : Nat → Nat} {n N : Nat} {t : List Tok} (h : WL tl n t) (hg : gtk t ≤ N) {A V W : Nat → Nat → Int64} (he : ∀ k, k < N → V k = W k) : rowOf A V t = rowOf A W t := by
  induction n generalizing t with
  | zero => exact absurd h id
  | succ n ih =>
    rcases h with ⟨k, h1, rfl⟩ | ⟨k, h1, rfl⟩ | ⟨k, h1, h2, h3, rfl⟩ | ⟨k, a, b, h1, h2, h3, rfl⟩ | ⟨p, a, h1, h2, rfl⟩ | ⟨a, h1, rfl⟩
    · rfl
    · rfl
    · show V k = W k
      exact he k (by simp [gtk] at hg; omega)
    · rw [gtk_app, gtk_app] at hg
      rw [row_join h2 h3 h1, row_join h2 h3 h1, ih h2 (by omega), ih h3 (by omega)]
    · rw [gtk_app] at hg
      rw [row_share h2, row_share h2, ih h2 (by omega)]
    · rw [gtk_app] at hg
      rw [row_year h1, row_year h1, ih h1 (by omega)]
/-! terms: the definition that holds in a quarter; values of all terms -/
def shd (d : Nat → Option (List Tok)) : Nat → Option (List Tok)
  | 0 => d 0
  | q + 1 => match d (q + 1) with
    | some f => some f
    | none => shd d q
def sval (A : Nat → Nat → Int64) (td : Nat → Nat → Option (List Tok)) : Nat → Nat → Nat → Int64
  | 0 => fun _ _ => 0
  | t + 1 => fun k => if k = t then fun q => rowOf A (sval A td t) ((shd (td t) q).getD []) q else sval A td t k
theorem sval_lt {A : Nat → Nat → Int64} {td : Nat → Nat → Option (List Tok)} {n k : Nat} (h : k < n) : sval A td n k = sval A td (k + 1) k := by
  induction n with
  | zero => omega
  | succ n ih =>
    by_cases q : k = n
    · subst q; rfl
    · show (if k = n then _ else sval A td n k) = _
      rw [if_neg q]; exact ih (by omega)

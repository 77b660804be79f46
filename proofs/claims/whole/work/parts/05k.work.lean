/-! working formulas out: the stack of rows -/
def stkAt (f : Nat → Int64) : List (Nat → Int64) → Prop
  | [] => True
  | r :: s => (∀ q, q < 20 → f (20 * s.length + q) = r q) ∧ stkAt f s
theorem stkAt.frame {f g : Nat → Int64} {s : List (Nat → Int64)} (h : stkAt f s) (hf : ∀ j, j < 20 * s.length → g j = f j) : stkAt g s := by
  induction s with
  | nil => trivial
  | cons r s ih =>
    have hl : (r :: s).length = s.length + 1 := rfl
    rw [hl] at hf
    exact ⟨fun q hq => by rw [hf _ (by omega)]; exact h.1 q hq, ih h.2 (fun j hj => hf j (by omega))⟩
def rOK (m : Nat) : List Tok → Nat → Prop
  | [], _ => True
  | t :: ts, d => if t.1 < 4 then 2 ≤ d ∧ rOK m ts (d - 1) else if t.1 < 7 then d + 1 ≤ m ∧ rOK m ts (d + 1) else 1 ≤ d ∧ rOK m ts d
theorem WL.rok {tl : Nat → Nat} {n m d : Nat} {t ts : List Tok} (h : WL tl n t) (hd : d + n ≤ m) (hr : rOK m ts (d + 1)) : rOK m (t ++ ts) d := by
  induction n generalizing t ts d with
  | zero => exact absurd h id
  | succ n ih =>
    rcases h with ⟨k, h1, rfl⟩ | ⟨k, h1, rfl⟩ | ⟨k, h1, h2, h3, rfl⟩ | ⟨k, a, b, h1, h2, h3, rfl⟩ | ⟨p, a, h1, h2, rfl⟩ | ⟨a, h1, rfl⟩
    · exact ⟨by omega, hr⟩
    · exact ⟨by omega, hr⟩
    · exact ⟨by omega, hr⟩
    · rw [List.append_assoc, List.append_assoc]
      refine ih h2 (by omega) (ih h3 (by omega) ?_)
      show if k < 4 then 2 ≤ d + 1 + 1 ∧ rOK m ts (d + 1 + 1 - 1) else _
      rw [if_pos h1]; exact ⟨by omega, hr⟩
    · rw [List.append_assoc]
      refine ih h2 (by omega) ?_
      exact ⟨by omega, hr⟩
    · rw [List.append_assoc]
      refine ih h1 (by omega) ?_
      exact ⟨by omega, hr⟩
theorem drop_cons {T : List Tok} {k : Nat} (h : k < T.length) : T.drop k = T.getD k (0, 0) :: T.drop (k + 1) := by
  rw [List.getD_eq_getElem?_getD, List.getElem?_eq_getElem h]
  exact List.drop_eq_getElem_cons h
theorem rok_j {m k d : Nat} {T : List Tok} (h : rOK m (T.drop k) d) (hk : k < T.length) (h4 : (T.getD k (0, 0)).1 < 4) : 2 ≤ d ∧ rOK m (T.drop (k + 1)) (d - 1) := by
  rw [drop_cons hk] at h
  unfold rOK at h; rw [if_pos h4] at h; exact h
theorem rok_l {m k d : Nat} {T : List Tok} (h : rOK m (T.drop k) d) (hk : k < T.length) (h4 : 4 ≤ (T.getD k (0, 0)).1 ∧ (T.getD k (0, 0)).1 ≤ 6) : d + 1 ≤ m ∧ rOK m (T.drop (k + 1)) (d + 1) := by
  rw [drop_cons hk] at h
  unfold rOK at h; rw [if_neg (by omega), if_pos (by omega)] at h; exact h
theorem rok_o {m k d : Nat} {T : List Tok} (h : rOK m (T.drop k) d) (hk : k < T.length) (h4 : 7 ≤ (T.getD k (0, 0)).1) : 1 ≤ d ∧ rOK m (T.drop (k + 1)) d := by
  rw [drop_cons hk] at h
  unfold rOK at h; rw [if_neg (by omega), if_neg (by omega)] at h; exact h
/-- a row that is written from its end -/
def inP (f f0 R : Nat → Int64) (B c : Nat) : Prop := (∀ z, c ≤ z → z < 20 → f (B + z) = R z) ∧ ∀ j, (j < B + c ∨ B + 20 ≤ j) → f j = f0 j
theorem inP.rf {f0 R : Nat → Int64} {B : Nat} : inP f0 f0 R B 20 := ⟨fun z h1 h2 => absurd h1 (by omega), fun _ _ => rfl⟩
theorem inP.step {f f0 R : Nat → Int64} {B c : Nat} {v : Int64} (h : inP f f0 R B (c + 1)) (hc : c < 20) (hv : v = R c) : inP (up2 f (B + c) v) f0 R B c := by
  refine ⟨fun z h1 h2 => ?_, fun j hj => ?_⟩
  · by_cases q : z = c
    · subst q; rw [up2_s, hv]
    · rw [up2_n (by omega)]; exact h.1 z (by omega) h2
  · rw [up2_n (by omega)]; exact h.2 j (by omega)
theorem sev_len {A V : Nat → Nat → Int64} {k n : Nat} {s : List (Nat → Int64)} : (sev A V k n s).length = if 4 ≤ k ∧ k ≤ 6 then s.length + 1 else if 7 ≤ k ∧ k ≤ 8 then s.length - 1 + 1 else s.length - 1 - 1 + 1 := by
  unfold sev
  by_cases h4 : k = 4
  · rw [if_pos h4, if_pos (by omega)]; rfl
  · by_cases h5 : k = 5
    · rw [if_neg h4, if_pos h5, if_pos (by omega)]; rfl
    · by_cases h6 : k = 6
      · rw [if_neg h4, if_neg h5, if_pos h6, if_pos (by omega)]; rfl
      · by_cases h7 : k = 7
        · rw [if_neg h4, if_neg h5, if_neg h6, if_pos h7, if_neg (by omega), if_pos (by omega)]; simp
        · by_cases h8 : k = 8
          · rw [if_neg h4, if_neg h5, if_neg h6, if_neg h7, if_pos h8, if_neg (by omega), if_pos (by omega)]; simp
          · rw [if_neg h4, if_neg h5, if_neg h6, if_neg h7, if_neg h8, if_neg (by omega), if_neg (by omega)]; simp
theorem st_push {f f0 R r : Nat → Int64} {s : List (Nat → Int64)} (h : stkAt f0 s) (hi : inP f f0 R (20 * s.length) 0) (hr : ∀ z, z < 20 → R z = r z) : stkAt f (r :: s) := ⟨fun q hq => by rw [hi.1 q (Nat.zero_le _) hq]; exact hr q hq, h.frame (fun j hj => hi.2 j (Or.inl (by omega)))⟩
theorem ev_leaf {f f0 R : Nat → Int64} {A V : Nat → Nat → Int64} {k n : Nat} {s : List (Nat → Int64)} (hk : 4 ≤ k ∧ k ≤ 6) (h : stkAt f0 s) (hi : inP f f0 R (20 * s.length) 0) (hr : ∀ z, z < 20 → R z = if k = 4 then A n z else if k = 5 then lN64 n else V n z) : stkAt f (sev A V k n s) := by
  unfold sev
  by_cases h4 : k = 4
  · rw [if_pos h4]; exact st_push h hi (fun z hz => by rw [hr z hz, if_pos h4])
  · by_cases h5 : k = 5
    · rw [if_neg h4, if_pos h5]; exact st_push h hi (fun z hz => by rw [hr z hz, if_neg h4, if_pos h5])
    · rw [if_neg h4, if_neg h5, if_pos (by omega)]; exact st_push h hi (fun z hz => by rw [hr z hz, if_neg h4, if_neg h5])
theorem ev_share {f f0 : Nat → Int64} {A V : Nat → Nat → Int64} {n : Nat} {s : List (Nat → Int64)} (hs : 1 ≤ s.length) (h : stkAt f0 s) (hi : inP f f0 (fun z => zfd (f0 (20 * (s.length - 1) + z) * lN64 n)) (20 * (s.length - 1)) 0) : stkAt f (sev A V 7 n s) := by
  cases s with
  | nil => exact absurd hs (by simp)
  | cons r s =>
    have e : (r :: s).length - 1 = s.length := rfl
    rw [e] at hi
    exact st_push (r := fun q => zfd (r q * lN64 n)) h.2 hi (fun z hz => by show zfd (f0 (20 * s.length + z) * lN64 n) = _; rw [h.1 z hz])
theorem syr_congr {r r2 : Nat → Int64} {q b : Nat} (h : ∀ z, z ≤ q → r z = r2 z) : syr r q b = syr r2 q b := by
  induction b with
  | zero => rfl
  | succ b ih =>
    show syr r q b + (if b ≤ q then r (q - b) else 0) = syr r2 q b + (if b ≤ q then r2 (q - b) else 0)
    rw [ih, h (q - b) (by omega)]
theorem ev_year {f f0 : Nat → Int64} {A V : Nat → Nat → Int64} {n : Nat} {s : List (Nat → Int64)} (hs : 1 ≤ s.length) (h : stkAt f0 s) (hi : inP f f0 (fun z => syr (fun y => f0 (20 * (s.length - 1) + y)) z 4) (20 * (s.length - 1)) 0) : stkAt f (sev A V 8 n s) := by
  cases s with
  | nil => exact absurd hs (by simp)
  | cons r s =>
    have e : (r :: s).length - 1 = s.length := rfl
    rw [e] at hi
    exact st_push (r := fun q => syr r q 4) h.2 hi (fun z hz => syr_congr (fun y hy => h.1 y (by omega)))
theorem ev_join {f f0 : Nat → Int64} {A V : Nat → Nat → Int64} {k n : Nat} {s : List (Nat → Int64)} (hk : k < 4) (hs : 2 ≤ s.length) (h : stkAt f0 s) (hi : inP f f0 (fun z => sjn k (f0 (20 * (s.length - 1 - 1) + z)) (f0 (20 * (s.length - 1 - 1) + 20 + z))) (20 * (s.length - 1 - 1)) 0) : stkAt f (sev A V k n s) := by
  cases s with
  | nil => exact absurd hs (by simp)
  | cons r s =>
    cases s with
    | nil => exact absurd hs (by simp)
    | cons r2 s =>
      have e : (r :: r2 :: s).length - 1 - 1 = s.length := rfl
      rw [e] at hi
      unfold sev
      rw [if_neg (by omega), if_neg (by omega), if_neg (by omega), if_neg (by omega), if_neg (by omega)]
      refine st_push (r := fun q => sjn k (r2 q) (r q)) h.2.2 hi (fun z hz => ?_)
      show sjn k (f0 (20 * s.length + z)) (f0 (20 * s.length + 20 + z)) = _
      have a := h.1 z hz
      have b := h.2.1 z hz
      have l : (r2 :: s).length = s.length + 1 := rfl
      rw [l] at a
      rw [b, show 20 * s.length + 20 + z = 20 * (s.length + 1) + z by omega, a]
theorem syr_stop {r : Nat → Int64} {q a : Nat} (h1 : q < a) (h2 : a ≤ 4) : syr r q 4 = syr r q a := by
  have st : ∀ b, q < b → syr r q (b + 1) = syr r q b := fun b hb => by
    show syr r q b + (if b ≤ q then r (q - b) else 0) = _
    rw [if_neg (by omega), Int64.add_zero]
  have : a = 4 ∨ a = 3 ∨ a = 2 ∨ a = 1 := by omega
  rcases this with rfl | rfl | rfl | rfl
  · rfl
  · exact st 3 h1
  · rw [st 3 (by omega), st 2 (by omega)]
  · rw [st 3 (by omega), st 2 (by omega), st 1 (by omega)]
theorem syr_1 {r : Nat → Int64} {q : Nat} : syr r q 1 = r q := by
  show (0 : Int64) + (if 0 ≤ q then r (q - 0) else 0) = r q
  rw [if_pos (Nat.zero_le _), Int64.zero_add]; rfl
theorem syr_s {r : Nat → Int64} {q b : Nat} (h : b ≤ q) : syr r q (b + 1) = syr r q b + r (q - b) := by
  show syr r q b + (if b ≤ q then r (q - b) else 0) = _
  rw [if_pos h]
theorem wth_46 {k : Nat} (h : k < 2 ^ 30) : wth (nI k) 4 6 ↔ (4 ≤ k ∧ k ≤ 6) := by
  rw [wth_iff, i32_le, i32_le, nI_toInt (by omega), show (4 : Int32).toInt = 4 from rfl, show (6 : Int32).toInt = 6 from rfl]; omega
theorem nI_am1 {n : Nat} (h : 0 < n) : nI n + (-1) = nI (n - 1) := sb_m1 h
theorem nI_a0 (n : Nat) : nI n + 0 = nI n := Int32.add_zero _
theorem gI_neg {c : Nat} (h : c < 2 ^ 30) : gI c < 0 ↔ c = 0 := by
  rw [i32_lt, gI_toInt h, show (0 : Int32).toInt = 0 from rfl]; omega
theorem gI_dec (c : Nat) : nI c + Int32.ofInt (-1) = gI c := by
  have e : Int32.ofInt (-1) = -1 := by decide
  unfold gI
  rw [e, Int32.sub_eq_add_neg]

/-! what a call leaves of the class -/
def XFr (g g2 : XGh) (h h2 : zH) : Prop := ∀ b e, h b = some e → qR g b = (0, 0) → h2 b = some e ∧ qR g2 b = (0, 0)
def XQ (G : zG) (h h2 : zH) (g : XGh) (x : Nat) (s : ZS) : Prop := ∃ g2, XI G h2 g2 x s ∧ XFr g g2 h h2
section
variable {G : zG} {h h1 h2 : zH} {g g2 : XGh} {T U : Nat × Nat → Prop} {x : Nat} {s s2 : ZS}
theorem KP.mk {nr : Nat → Nat × Nat} {ad2 : Nat → Nat → Nat} {tk2 : Nat → List Tok} {lv2 : Nat → Nat} {nd2 : Nat → Nat → Nat} {S2 : List Nat} (hk : ∀ b e, h b = some e → T (qR g b) → h2 b = some e) (hU : ∀ t k, U (t, k) → ad2 t k = qA g t k) (htk : ∀ b e, h b = some e → tk2 b = qT g b ∧ lv2 b = qL g b ∧ nd2 b = qN g b) : KP T U g (rx (qR g) h nr, ad2, tk2, lv2, nd2, S2) h h2 := ⟨fun b e hb => ⟨hk b e hb, rx_o hb, (htk b e hb).1, (htk b e hb).2.1, (htk b e hb).2.2⟩, hU⟩
theorem KP.fr0 (k : KP T U g g2 h h2) (h0 : T (0, 0)) : XFr g g2 h h2 := fun b e hb hr => k.c hb hr h0
/-- a list step leaves cells of other roles -/
theorem st_keep {j ar : Nat} {L : List Nat} (hx : XL G h g j L) (hg : ∀ b e, h b = some e → b ≠ gs G 0) (st : zSt h h2 (qA g 14 j) (qA g 15 j) ar) : ∀ b e, h b = some e → (qR g b ≠ (14, j) ∧ qR g b ≠ (15, j)) → h2 b = some e := fun b e hb hr => st.1 b e (fun z => by
  rcases z with z | z
  · exact hr.1 (by rw [z]; exact hx.2.1)
  · rcases hx.2.2 with q | ⟨-, q⟩
    · exact hr.2 (by rw [z]; exact q)
    · exact hg b e hb (z.trans q)) hb
/-- the list behind a step -/
theorem XL.next {j ar : Nat} {L L2 : List Nat} (hx : XL G h g j L) (hg2 : ∀ b e, h2 b = some e → b ≠ gs G 0) (st : zSt h h2 (qA g 14 j) (qA g 15 j) ar) (al : zAL G h2 (qA g 14 j) ar L2) (e14 : qA g2 14 j = qA g 14 j) (e15 : qA g2 15 j = ar) (r14 : ∀ e, h (qA g 14 j) = some e → qR g2 (qA g 14 j) = (14, j)) (r15 : ∀ e, h ar = some e → qR g2 ar = qR g ar) (rn : h ar = none → (∃ e, h2 ar = some e) → qR g2 ar = (15, j)) : XL G h2 g2 j L2 := by
  unfold XL
  rw [e14, e15]
  obtain ⟨-, ⟨mo, hm⟩, -⟩ := hx.1
  refine ⟨al, r14 _ hm, ?_⟩
  obtain ⟨-, -, z⟩ := al
  rcases z with ⟨z1, z2⟩ | ⟨f, z1, -⟩
  · exact Or.inr ⟨z1, z2⟩
  · left
    rcases st.2 with q | q
    · rcases hx.2.2 with y | ⟨-, y⟩
      · subst q
        cases hh : h (qA g 15 j) with
        | none => exact rn hh ⟨_, z1⟩
        | some e => exact (r15 _ hh).trans y
      · exact absurd (q.trans y) (hg2 _ _ z1)
    · exact rn q ⟨_, z1⟩
def nrA (a : Nat) (r : Nat × Nat) (n : Nat → Nat × Nat) : Nat → Nat × Nat := fun b => if b = a then r else n b
theorem nrA_s {a : Nat} {r : Nat × Nat} {n : Nat → Nat × Nat} : nrA a r n a = r := if_pos rfl
theorem nrA_n {a b : Nat} {r : Nat × Nat} {n : Nat → Nat × Nat} (h : b ≠ a) : nrA a r n b = n b := if_neg h
def nr0 : Nat → Nat × Nat := fun _ => (0, 0)
theorem XS.keep {S : List Frm} (hs : XS g S) (hN : XN G h g (oN s) (oL s)) (k : KP T U g g2 h h2) {L : List Nat} (e : qS g2 = L) (hL : ∀ a ∈ L, a ∈ qS g) : XS g2 (L.map (fun a => (qT g a, qL g a))) := by
  unfold XS
  rw [e]
  refine ⟨fun a ha => ?_, List.map_congr_left (fun a ha => ?_)⟩
  · obtain ⟨c, hc⟩ := (hN a (hs.1 a (hL a ha))).cell
    exact (k.1 a c hc).2.1.trans (hs.1 a (hL a ha))
  · obtain ⟨c, hc⟩ := (hN a (hs.1 a (hL a ha))).cell
    obtain ⟨-, kt, kl, -⟩ := (k.1 a c hc).2
    rw [kt, kl]
theorem XV.fr (hv : XV G h g s) (k : KP T U g g2 h h2) (hT : ∀ i, i < oN s → XT1 G h g s i) (t5 : ∀ i, i < oN s → T (5, i)) (u5 : ∀ i, i < oN s → U (5, i)) (e1 : oN s2 = oN s) (e2 : oV s2 = oV s) : XV G h2 g2 s2 := fun i hi => by
  rw [e1] at hi
  obtain ⟨f, hf, hq⟩ := hv i hi
  rw [e2, k.2 _ _ (u5 i hi)]
  exact ⟨f, (k.c hf (hT i hi).2.2.1 (t5 i hi)).1, hq⟩
theorem XT1.fr5 {i : Nat} (x0 : XT1 G h g s i) (xn : XN G h g (oN s) (oL s)) (k : KP T U g g2 h h2) (t3 : T (3, i)) (t4 : T (4, i)) (t5 : T (5, i)) (u3 : U (3, i)) (u4 : U (4, i)) (u5 : U (5, i)) (e1 : oL s2 i = oL s i) (e2 : oD s2 i = oD s i) : XT1 G h2 g2 s2 i := x0.fr xn k t3 t4 (fun f hf => ⟨f, (k.c hf x0.2.2.1 t5).1⟩) u3 u4 u5 e1 e2
/-- settled -/
theorem XW.settle (hi : XW G h g x s) (k : SF G g (oAL s) (oV s) E55 h h2) (hv : XV G h2 g s) : XI G h2 g x s := by
  obtain ⟨hO, hA, ⟨hL0, hL1, hL2, hL3⟩, hS, hN, hT, hR, hB⟩ := hi
  have kp := k.kp
  have n (a b : Nat) (h12 : a ≠ 12) (h5 : a ≠ 5) : (fun r : Nat × Nat => r.1 ≠ 12 ∧ ¬ E55 r) (a, b) := ⟨h12, h5⟩
  refine ⟨⟨hO.fr kp (n _ _ (by decide) (by decide)) (n _ _ (by decide) (by decide)) trivial (fun _ _ => trivial) (fun _ _ => trivial), hA.fr kp (fun i _ => n _ _ (by decide) (by decide)) (fun _ _ => trivial), ⟨xl_sf hL0 k, xl_sf hL1 k, xl_sf hL2 k, xl_sf hL3 k⟩, hS, k.xn hN (show ¬ (11 : Nat) = 5 by decide) (show ¬ (13 : Nat) = 5 by decide), fun i hi => ?_, fun i hi => ?_, fun i hi => ?_⟩, hv⟩
  · refine (hT i hi).fr hN kp (n _ _ (by decide) (by decide)) (n _ _ (by decide) (by decide)) (fun f _ => ?_) trivial trivial trivial rfl rfl
    obtain ⟨f2, hf2, -⟩ := hv i hi
    exact ⟨f2, hf2⟩
  · exact (hR i hi).fr kp (n _ _ (by decide) (by decide)) (n _ _ (by decide) (by decide)) (n _ _ (by decide) (by decide)) (n _ _ (by decide) (by decide)) trivial trivial trivial trivial trivial trivial rfl rfl rfl rfl rfl rfl rfl
  · exact (hB i hi).fr kp (n _ _ (by decide) (by decide)) trivial trivial rfl rfl rfl rfl
theorem SF.fr0 {A V : Nat → Nat → Int64} (k : SF G g A V E55 h h2) : XFr g g h h2 := fun b e hb hr => ⟨k.cell hb hr (by decide) (show ¬ (0 : Nat) = 5 by decide), hr⟩
theorem XFr.trans {g3 : XGh} {h3 : zH} (k1 : XFr g g2 h h2) (k2 : XFr g2 g3 h2 h3) : XFr g g3 h h3 := fun b e hb hr => k2 b e (k1 b e hb hr).1 (k1 b e hb hr).2
/-! a new node on the stack -/
def gNew (g : XGh) (h : zH) (q tx tb row ar : Nat) (t : List Tok) (lv a3 a4 : Nat) (S : List Nat) : XGh := (rx (qR g) h (nrA q (11, 0) (nrA tx (13, 0) (nrA tb (13, 0) (nrA ar (15, 0) (nrA row (12, q) nr0))))), up3 (qA g) 15 0 ar, up2 (qT g) q t, up2 (qL g) q lv, up2 (qN g) q (fun j => if j = 0 then row else if j = 1 then tx else if j = 2 then tb else if j = 3 then a3 else a4), S)
theorem XI.node {q tx tb row ar lv a3 a4 kd p : Nat} {t : List Tok} {base : List Nat} {c1 c2 : Value} {f : Nat → Int32} (hi : XI G h g x s) (hg : ∀ b e, h b = some e → b ≠ gs G 0) (hg2 : ∀ b e, h2 b = some e → b ≠ gs G 0)
    (st : zSt h h2 (qA g 14 0) (qA g 15 0) ar) (al : zAL G h2 (qA g 14 0) ar (base ++ [q])) (hb : ∀ a ∈ base, a ∈ qS g) (nq : h q = none) (ntx : h tx = none) (ntb : h tb = none)
    (hc : h2 q = some (.inr (4, [.int (nI kd), .int (nI p), c1, c2, .int (nI lv), .int (gI (gtk t)), .ref tx, .ref row]))) (htx : h2 tx = some (.inr (0, [.ref tb, .int 0, .int 0, .int 0]))) (htb : h2 tb = some (.inl (gc G 2, (txtOf t).length, .inl f))) (ht1 : tbs (txtOf t) f) (ht2 : sb_Fit f)
    (hl1 : 1 ≤ lv) (hl6 : lv ≤ 6) (hWL : WL (oL s) lv t) (hgt : gtk t ≤ oN s)
    (hk : nkLeaf G h2 (gNew g h q tx tb row ar t lv a3 a4 (base ++ [q])) (oN s) (oL s) q kd p c1 c2 ∨ nkMade G h2 (gNew g h q tx tb row ar t lv a3 a4 (base ++ [q])) q kd p c1 c2) :
    XQ G h h2 g x (s.1, base.map (fun a => (qT g a, qL g a)) ++ [(t, lv)], s.2.2) := by
  obtain ⟨⟨hO, hA, ⟨hL0, hL1, hL2, hL3⟩, hS, hN, hT, hR, hB⟩, hV⟩ := hi
  have k : KP (fun r => r ≠ (14, 0) ∧ r ≠ (15, 0)) (fun r => r ≠ (15, 0)) g (gNew g h q tx tb row ar t lv a3 a4 (base ++ [q])) h h2 := KP.mk (st_keep hL0 hg st) (fun t k hu => up3_n (fun z => hu (by rw [z.1, z.2]))) (fun b e hb => by
    have ne : b ≠ q := fun z => by rw [z, nq] at hb; cases hb
    exact ⟨up2_n ne, up2_n ne, up2_n ne⟩)
  have ko : KO G g h h2 := k.ko (by simp)
  have ntq : tx ≠ q := zne_oo hc htx (by decide)
  have nbq : tb ≠ q := zne_oi hc htb
  have nbx : tb ≠ tx := zne_oi htx htb
  have rq : qR (gNew g h q tx tb row ar t lv a3 a4 (base ++ [q])) q = (11, 0) := (rx_n nq).trans nrA_s
  have eS : ∀ a, a ∈ base → ∃ c, h a = some c := fun a ha => (hN a (hS.1 a (hb a ha))).cell
  refine ⟨gNew g h q tx tb row ar t lv a3 a4 (base ++ [q]), ⟨⟨hO.fr k (by simp) (by simp) (by simp) (by simp) (by simp), hA.fr k (by simp) (by simp), ⟨?_, hL1.fr k (by simp) (by simp) (by simp) (by simp), hL2.fr k (by simp) (by simp) (by simp) (by simp), hL3.fr k (by simp) (by simp) (by simp) (by simp)⟩, ⟨fun a ha => ?_, ?_⟩, fun a ha => ?_, fun i hi => (hT i hi).fr5 hN k (by simp) (by simp) (by simp) (by simp) (by simp) (by simp) rfl rfl, fun i hi => (hR i hi).fr k (by simp) (by simp) (by simp) (by simp) (by simp) (by simp) (by simp) (by simp) (by simp) (by simp) rfl rfl rfl rfl rfl rfl rfl, fun i hi => (hB i hi).fr k (by simp) (by simp) (by simp) rfl rfl rfl rfl⟩, hV.fr k hT (by simp) (by simp) rfl rfl⟩, k.fr0 (by simp)⟩
  · refine hL0.next hg2 st al (k.2 14 0 (by simp)) (show up3 (qA g) 15 0 ar 15 0 = ar from up3_s) (fun e he => (k.1 _ e he).2.1.trans hL0.2.1) (fun e he => (k.1 _ e he).2.1) (fun hn ⟨e, he⟩ => ?_)
    have n1 : ar ≠ q := fun z => by
      obtain ⟨-, -, w⟩ := al
      rcases w with ⟨w, -⟩ | ⟨ff, w, -⟩
      · simp at w
      · rw [z, hc] at w; cases w
    have n2 : ar ≠ tx := fun z => by
      obtain ⟨-, -, w⟩ := al
      rcases w with ⟨w, -⟩ | ⟨ff, w, -⟩
      · simp at w
      · rw [z, htx] at w; cases w
    have n3 : ar ≠ tb := fun z => by
      obtain ⟨-, -, w⟩ := al
      rcases w with ⟨w, -⟩ | ⟨ff, w, -⟩
      · simp at w
      · rw [z] at w; exact zne_iq htb w rfl
    exact (rx_n hn).trans ((nrA_n n1).trans ((nrA_n n2).trans ((nrA_n n3).trans nrA_s)))
  · rcases List.mem_append.mp ha with ha | ha
    · obtain ⟨c, hc'⟩ := eS a ha
      exact (k.1 a c hc').2.1.trans (hS.1 a (hb a ha))
    · rw [List.mem_singleton] at ha; subst ha; exact rq
  · show base.map (fun a => (qT g a, qL g a)) ++ [(t, lv)] = (base ++ [q]).map (fun a => (up2 (qT g) q t a, up2 (qL g) q lv a))
    rw [List.map_append]
    congr 1
    · refine List.map_congr_left (fun a ha => ?_)
      obtain ⟨c, hc'⟩ := eS a ha
      obtain ⟨-, kt, kl, -⟩ := (k.1 a c hc').2
      show _ = (qT (gNew g h q tx tb row ar t lv a3 a4 (base ++ [q])) a, qL (gNew g h q tx tb row ar t lv a3 a4 (base ++ [q])) a)
      rw [kt, kl]
    · show _ = [(up2 (qT g) q t q, up2 (qL g) q lv q)]
      rw [up2_s, up2_s]
  · cases hh : h a with
    | some e => exact NF.fr hN ((k.1 a e hh).2.1.symm.trans ha) k ko (by simp) (by simp) (by simp) (by simp) (Nat.le_refl _) (fun _ _ => rfl)
    | none =>
      have ha2 : rx (qR g) h (nrA q (11, 0) (nrA tx (13, 0) (nrA tb (13, 0) (nrA ar (15, 0) (nrA row (12, q) nr0))))) a = (11, 0) := ha
      rw [rx_n hh] at ha2
      have haq : a = q := by
        by_cases z : a = q
        · exact z
        · rw [nrA_n z] at ha2
          by_cases z : a = tx
          · rw [z, nrA_s] at ha2; cases ha2
          · rw [nrA_n z] at ha2
            by_cases z : a = tb
            · rw [z, nrA_s] at ha2; cases ha2
            · rw [nrA_n z] at ha2
              by_cases z : a = ar
              · rw [z, nrA_s] at ha2; cases ha2
              · rw [nrA_n z] at ha2
                by_cases z : a = row
                · rw [z, nrA_s] at ha2; cases ha2
                · rw [nrA_n z] at ha2; cases ha2
      subst haq
      have eT : qT (gNew g h a tx tb row ar t lv a3 a4 (base ++ [a])) a = t := up2_s
      have eL : qL (gNew g h a tx tb row ar t lv a3 a4 (base ++ [a])) a = lv := up2_s
      have eN : qN (gNew g h a tx tb row ar t lv a3 a4 (base ++ [a])) a = (fun j => if j = 0 then row else if j = 1 then tx else if j = 2 then tb else if j = 3 then a3 else a4) := up2_s
      unfold NF cF
      rw [eT, eL, eN]
      refine ⟨hl1, hl6, hWL, hgt, ⟨⟨f, htx, htb, ht1, hWL.txa, ht2⟩, ?_, ?_⟩, kd, p, c1, c2, hc, hk⟩
      · exact (rx_n ntx).trans ((nrA_n ntq).trans nrA_s)
      · exact (rx_n ntb).trans ((nrA_n nbq).trans ((nrA_n nbx).trans nrA_s))
end

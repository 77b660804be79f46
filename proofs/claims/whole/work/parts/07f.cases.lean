theorem LI.cl {G : zG} {h h1 : zH} {g g2 : XGh} {x m o : Nat} {s N : ZS} {ad : Nat → Nat} (li : LI G h g x m o ad s) (xi : XI G h1 g2 x N) (fr : XFr g g2 h h1) : LM G h1 g2 x m o ad N s (fun _ => True) := by
  obtain ⟨-, -, ⟨k, mo⟩, rm, ra, ⟨f, ho⟩, ro⟩ := li
  obtain ⟨⟨vs, c1⟩, c2⟩ := mo.cells
  refine ⟨xi, ⟨k, mo.keep (fun b e hb hr => ?_)⟩, (fr m _ c1 rm).2, fun j hj => ?_, ⟨f, (fr o _ ho ro).1, trivial⟩, (fr o _ ho ro).2⟩
  · rcases hr with rfl | ⟨j, hj, rfl⟩
    · exact (fr _ _ hb rm).1
    · exact (fr _ _ hb (ra j hj)).1
  · obtain ⟨ca, z, hz⟩ := c2 j hj
    exact (fr _ _ hz (ra j hj)).2
set_option maxHeartbeats 4000000 in
set_option maxRecDepth 100000 in
theorem law_amount {p : Program} {l : Launch} {e : Env} {s : State} {m : MethodId} {args : Array Value} {below : List Frame} {meth : Method} {c : Code} {G : zG} (hl : l.stackTraces = false) (C : zOK p l e room_1 s m args below meth c G cL_law 8 RL) (hNc : zNc s) {sb L : Nat} {xs : Nat → Int32} (hX : va_X sb L xs s s.heap ∧ sb < s.heap.size ∧ sb < gN G) (hL : L ≤ 2048) (i : Nat) (hiL : i + 4 ≤ L) (p1 p2 p3 : Int32) (e1 : xs (nI (i + 1)).toNatClampNeg = p1) (e2 : xs (nI (i + 2)).toNatClampNeg = p2) (e3 : xs (nI (i + 3)).toNatClampNeg = p3) {Q : State → Prop} {h : zH} {g : XGh} {x mm o : Nat} {ad : Nat → Nat} {sz : ZS} (li : LI G h g x mm o ad sz) (cs sl : Nat) (hcs : cs + 20 ≤ 601024) (hsl : sl + 9000 ≤ 7293034) (kk : ∀ (h2 : zH) (g2 : XGh) (ad2 : Nat → Nat) (s2 : ZS), LI G h2 g2 x mm o ad2 s2 → V p l e room_1 s m args below meth c G 8 Q h2 (cs + 20) (sl + 9000) 1797 [(4, .int (nI i)), (0, .ref sb), (1, .ref x), (2, .ref mm), (3, .ref o)] []) : V p l e room_1 s m args below meth c G 8 Q h cs sl 160 [(4, .int (nI i)), (0, .ref sb), (1, .ref x), (2, .ref mm), (3, .ref o)] [] := by
  refine v_aload_n C 2 rfl dL_law_160 rfl ?_
  refine v_aload_n C 1 rfl dL_law_161 rfl ?_
  refine v_iload C 0 rfl dL_law_162 ?_
  refine v_iconst (v := 1) C dL_law_164 (by decide) ?_
  refine v_iadd C dL_law_165 (v_eqi (nI_adk i 1 (by decide)) ?_)
  refine v_sld C hX (vpin (show i + 1 < L by omega) (by omega)) dL_law_166 (v_eqi (y := p1) e1 ?_)
  refine v_aload_n C 1 rfl dL_law_167 rfl ?_
  refine v_iload C 0 rfl dL_law_168 ?_
  refine v_iconst (v := 2) C dL_law_170 (by decide) ?_
  refine v_iadd C dL_law_171 (v_eqi (nI_adk i 2 (by decide)) ?_)
  refine v_sld C hX (vpin (show i + 2 < L by omega) (by omega)) dL_law_172 (v_eqi (y := p2) e2 ?_)
  refine v_aload_n C 1 rfl dL_law_173 rfl ?_
  refine v_iload C 0 rfl dL_law_174 ?_
  refine v_iconst (v := 3) C dL_law_176 (by decide) ?_
  refine v_iadd C dL_law_177 (v_eqi (nI_adk i 3 (by decide)) ?_)
  refine v_sld C hX (vpin (show i + 3 < L by omega) (by omega)) dL_law_178 (v_eqi (y := p3) e3 ?_)
  refine v_aload_n C 4 rfl dL_law_179 rfl ?_
  obtain ⟨xi0, hw, -, -, -, ⟨fo, ho⟩, hro⟩ := id li
  refine v_callL (rest := []) C hNc (c_L_amount l hl G x o g sz p1 p2 p3 fo h xi0 hw ho hro) CL_L_99 rfl rfl (Nat.le_of_ble_eq_true rfl) ⟨Nat.le_of_ble_eq_true rfl, Nat.le_of_ble_eq_true rfl⟩ ⟨by show cs + 10 ≤ 601024; omega, by show sl + 8000 ≤ 7293034; omega⟩ dL_law_180 (fun r4 h4 w4 => ?_)
  by_cases hk : (kAmount p1 p2 p3) = 0
  · obtain ⟨er, g2, lm⟩ := li.ok w4 hk
    subst er
    refine v_istore C [(5, .int 0), (4, .int (nI i)), (0, .ref sb), (1, .ref x), (2, .ref mm), (3, .ref o)] rfl (by decide) dL_law_183 ?_
    refine v_aload_n C 4 rfl dL_law_185 rfl ?_
    refine v_aload_n C 2 rfl dL_law_186 rfl ?_
    refine v_iload C 1 rfl dL_law_187 ?_
    refine v_iconst (v := 1) C dL_law_189 (by decide) ?_
    refine v_iadd C dL_law_190 (v_eqi (nI_adk i 1 (by decide)) ?_)
    refine v_sld C hX (vpin (show i + 1 < L by omega) (by omega)) dL_law_191 (v_eqi (y := p1) e1 ?_)
    refine v_aload_n C 2 rfl dL_law_192 rfl ?_
    refine v_iload C 1 rfl dL_law_193 ?_
    refine v_iconst (v := 2) C dL_law_195 (by decide) ?_
    refine v_iadd C dL_law_196 (v_eqi (nI_adk i 2 (by decide)) ?_)
    refine v_sld C hX (vpin (show i + 2 < L by omega) (by omega)) dL_law_197 (v_eqi (y := p2) e2 ?_)
    refine v_aload_n C 2 rfl dL_law_198 rfl ?_
    refine v_iload C 1 rfl dL_law_199 ?_
    refine v_iconst (v := 3) C dL_law_201 (by decide) ?_
    refine v_iadd C dL_law_202 (v_eqi (nI_adk i 3 (by decide)) ?_)
    refine v_sld C hX (vpin (show i + 3 < L by omega) (by omega)) dL_law_203 (v_eqi (y := p3) e3 ?_)
    refine v_lt (fun B hB => ?_)
    obtain ⟨xi1, ⟨k1, mo1⟩, -⟩ := id lm
    obtain ⟨ns, na, ia, la, mr, ms, -⟩ := mo1.re hB
    refine v_callV (rest := []) C (c_X5_amount l hl G mm (adB ad B) ns na ia la h4 sz p1 p2 p3 h4 mr ms hw) K_L_104 mr.1 rfl rfl (Nat.le_of_ble_eq_true rfl) ⟨Nat.le_of_ble_eq_true rfl, Nat.le_of_ble_eq_true rfl⟩ ⟨by show cs + 10 + 0 ≤ 601024; omega, by show sl + 8000 + 0 ≤ 7293034; omega⟩ dL_law_204 (fun r8 h8 w8 => ?_)
    rcases w8 with ⟨-, mo, er2⟩ | ⟨hn, -⟩
    · obtain ⟨li2, f, ho2, hf⟩ := lm.step hB (wf_amount hw hk) mo
      refine v_istore C [(6, .int r8), (5, .int 0), (4, .int (nI i)), (0, .ref sb), (1, .ref x), (2, .ref mm), (3, .ref o)] rfl (by decide) dL_law_207 ?_
      refine v_aload_n C 5 rfl dL_law_209 rfl ?_
      obtain ⟨ns2, na2, ia2, la2, mr2, ms2, ek2⟩ := id mo
      refine v_callV (rest := []) C (c_X5_thrown l hl G mm (adB ad B) ns2 na2 ia2 la2 _ h8 mr2) K_L_105 mr2.1 rfl rfl (Nat.le_of_ble_eq_true rfl) ⟨Nat.le_of_ble_eq_true rfl, Nat.le_of_ble_eq_true rfl⟩ ⟨by show cs + 10 + 0 + 0 ≤ 601024; omega, by show sl + 8000 + 0 + 0 ≤ 7293034; omega⟩ dL_law_210 (fun r9 h9 w9 => ?_)
      obtain ⟨et, rfl⟩ := w9
      rw [ek2] at et; subst et
      refine v_iload C 1 rfl dL_law_213 ?_
      refine v_icmp_eq (tgt := 220) C dL_law_215 (by decide) (fun c10 => ?_) (fun c10 => absurd c10 (by decide))
      refine v_iload C 1 rfl dL_law_220 ?_
      refine v_if_ne (tgt := 237) C dL_law_222 (by decide) (fun c11 => absurd c11 (by decide)) (fun c11 => ?_)
      refine v_aload_n C 6 rfl dL_law_225 rfl ?_
      refine v_iconst (v := 0) C dL_law_226 (by decide) ?_
      refine v_lald C ho2 (show vp_in (0 : Int32) 1 from vpin (n := 0) (N := 1) (by decide) (by decide)) dL_law_227 (v_eql (y := (Int32.toInt64 (oA sz (cl p1) (cl p2)))) hf ?_)
      refine v_iload C 0 rfl dL_law_228 ?_
      refine v_i2l (v := (r8 : Int32).toInt64) C dL_law_230 rfl ?_
      refine v_lcmp C dL_law_231 ?_
      refine v_if_eq (tgt := 237) C dL_law_232 (by decide) (fun c12 => ?_) (fun c12 => absurd ((lgc_eq _ _).mpr (congrArg Int32.toInt64 er2).symm) c12)
      have c12 := (lgc_eq (Int32.toInt64 (oA sz (cl p1) (cl p2))) (Int32.toInt64 r8)).mp c12
      refine v_goto (tgt := 1797) C dL_law_237 (by decide) ?_
      refine v_lvp [2, 3, 4, 5, 6] rfl ?_
      exact v_widen (by omega) (by omega) (kk _ _ _ _ li2)
    · exact absurd hk hn
  · obtain ⟨er, g2, lm⟩ := li.no w4 hk
    subst er
    have hk4 : (kAmount p1 p2 p3) < 4 := by unfold kAmount; (repeat' split) <;> decide
    refine v_istore C [(5, .int (nI (kAmount p1 p2 p3))), (4, .int (nI i)), (0, .ref sb), (1, .ref x), (2, .ref mm), (3, .ref o)] rfl (by decide) dL_law_183 ?_
    refine v_aload_n C 4 rfl dL_law_185 rfl ?_
    refine v_aload_n C 2 rfl dL_law_186 rfl ?_
    refine v_iload C 1 rfl dL_law_187 ?_
    refine v_iconst (v := 1) C dL_law_189 (by decide) ?_
    refine v_iadd C dL_law_190 (v_eqi (nI_adk i 1 (by decide)) ?_)
    refine v_sld C hX (vpin (show i + 1 < L by omega) (by omega)) dL_law_191 (v_eqi (y := p1) e1 ?_)
    refine v_aload_n C 2 rfl dL_law_192 rfl ?_
    refine v_iload C 1 rfl dL_law_193 ?_
    refine v_iconst (v := 2) C dL_law_195 (by decide) ?_
    refine v_iadd C dL_law_196 (v_eqi (nI_adk i 2 (by decide)) ?_)
    refine v_sld C hX (vpin (show i + 2 < L by omega) (by omega)) dL_law_197 (v_eqi (y := p2) e2 ?_)
    refine v_aload_n C 2 rfl dL_law_198 rfl ?_
    refine v_iload C 1 rfl dL_law_199 ?_
    refine v_iconst (v := 3) C dL_law_201 (by decide) ?_
    refine v_iadd C dL_law_202 (v_eqi (nI_adk i 3 (by decide)) ?_)
    refine v_sld C hX (vpin (show i + 3 < L by omega) (by omega)) dL_law_203 (v_eqi (y := p3) e3 ?_)
    refine v_lt (fun B hB => ?_)
    obtain ⟨xi1, ⟨k1, mo1⟩, -⟩ := id lm
    obtain ⟨ns, na, ia, la, mr, ms, -⟩ := mo1.re hB
    refine v_callV (rest := []) C (c_X5_amount l hl G mm (adB ad B) ns na ia la h4 sz p1 p2 p3 h4 mr ms hw) K_L_104 mr.1 rfl rfl (Nat.le_of_ble_eq_true rfl) ⟨Nat.le_of_ble_eq_true rfl, Nat.le_of_ble_eq_true rfl⟩ ⟨by show cs + 10 + 0 ≤ 601024; omega, by show sl + 8000 + 0 ≤ 7293034; omega⟩ dL_law_204 (fun r16 h16 w16 => ?_)
    rcases w16 with ⟨hn, -⟩ | ⟨-, mo⟩
    · exact absurd hn hk
    · obtain ⟨li2, -⟩ := lm.step hB hw mo
      refine v_istore C [(6, .int r16), (5, .int (nI (kAmount p1 p2 p3))), (4, .int (nI i)), (0, .ref sb), (1, .ref x), (2, .ref mm), (3, .ref o)] rfl (by decide) dL_law_207 ?_
      refine v_aload_n C 5 rfl dL_law_209 rfl ?_
      obtain ⟨ns2, na2, ia2, la2, mr2, ms2, ek2⟩ := id mo
      refine v_callV (rest := []) C (c_X5_thrown l hl G mm (adB ad B) ns2 na2 ia2 la2 _ h16 mr2) K_L_105 mr2.1 rfl rfl (Nat.le_of_ble_eq_true rfl) ⟨Nat.le_of_ble_eq_true rfl, Nat.le_of_ble_eq_true rfl⟩ ⟨by show cs + 10 + 0 + 0 ≤ 601024; omega, by show sl + 8000 + 0 + 0 ≤ 7293034; omega⟩ dL_law_210 (fun r17 h17 w17 => ?_)
      obtain ⟨et, rfl⟩ := w17
      rw [ek2] at et; subst et
      refine v_iload C 1 rfl dL_law_213 ?_
      refine v_icmp_eq (tgt := 220) C dL_law_215 (by decide) (fun c18 => ?_) (fun c18 => absurd (by rfl) c18)
      have c18 := (nn_eq (a := (kAmount p1 p2 p3)) (b := (kAmount p1 p2 p3)) (by omega) (by omega)).mp c18
      refine v_iload C 1 rfl dL_law_220 ?_
      refine v_if_ne (tgt := 237) C dL_law_222 (by decide) (fun c19 => ?_) (fun c19 => absurd c19 (nI_nz4 hk hk4))
      have c19 := (nk_ne (a := (kAmount p1 p2 p3)) 0 (by decide) (by omega) (by decide)).mp c19
      refine v_goto (tgt := 1797) C dL_law_237 (by decide) ?_
      refine v_lvp [2, 3, 4, 5, 6] rfl ?_
      exact v_widen (by omega) (by omega) (kk _ _ _ _ li2)
set_option maxHeartbeats 4000000 in
set_option maxRecDepth 100000 in
theorem law_account {p : Program} {l : Launch} {e : Env} {s : State} {m : MethodId} {args : Array Value} {below : List Frame} {meth : Method} {c : Code} {G : zG} (hl : l.stackTraces = false) (C : zOK p l e room_1 s m args below meth c G cL_law 8 RL) (hNc : zNc s) {sb L : Nat} {xs : Nat → Int32} (hX : va_X sb L xs s s.heap ∧ sb < s.heap.size ∧ sb < gN G) (hL : L ≤ 2048) (i : Nat) (hiL : i + 4 ≤ L) (p1 p2 p3 : Int32) (e1 : xs (nI (i + 1)).toNatClampNeg = p1) (e2 : xs (nI (i + 2)).toNatClampNeg = p2) (e3 : xs (nI (i + 3)).toNatClampNeg = p3) {Q : State → Prop} {h : zH} {g : XGh} {x mm o : Nat} {ad : Nat → Nat} {sz : ZS} (li : LI G h g x mm o ad sz) (cs sl : Nat) (hcs : cs + 20 ≤ 601024) (hsl : sl + 9000 ≤ 7293034) (kk : ∀ (h2 : zH) (g2 : XGh) (ad2 : Nat → Nat) (s2 : ZS), LI G h2 g2 x mm o ad2 s2 → V p l e room_1 s m args below meth c G 8 Q h2 (cs + 20) (sl + 9000) 1797 [(4, .int (nI i)), (0, .ref sb), (1, .ref x), (2, .ref mm), (3, .ref o)] []) : V p l e room_1 s m args below meth c G 8 Q h cs sl 240 [(4, .int (nI i)), (0, .ref sb), (1, .ref x), (2, .ref mm), (3, .ref o)] [] := by
  refine v_aload_n C 2 rfl dL_law_240 rfl ?_
  refine v_aload_n C 1 rfl dL_law_241 rfl ?_
  refine v_iload C 0 rfl dL_law_242 ?_
  refine v_iconst (v := 1) C dL_law_244 (by decide) ?_
  refine v_iadd C dL_law_245 (v_eqi (nI_adk i 1 (by decide)) ?_)
  refine v_sld C hX (vpin (show i + 1 < L by omega) (by omega)) dL_law_246 (v_eqi (y := p1) e1 ?_)
  refine v_aload_n C 4 rfl dL_law_247 rfl ?_
  obtain ⟨xi0, hw, -, -, -, ⟨fo, ho⟩, hro⟩ := id li
  refine v_callL (rest := []) C hNc (c_L_account l hl G x o g sz p1 fo h xi0 hw ho hro) CL_L_108 rfl rfl (Nat.le_of_ble_eq_true rfl) ⟨Nat.le_of_ble_eq_true rfl, Nat.le_of_ble_eq_true rfl⟩ ⟨by show cs + 10 ≤ 601024; omega, by show sl + 8000 ≤ 7293034; omega⟩ dL_law_248 (fun r2 h2 w2 => ?_)
  by_cases hk : (kAccount sz p1) = 0
  · obtain ⟨er, g2, lm⟩ := li.ok w2 hk
    subst er
    refine v_istore C [(5, .int 0), (4, .int (nI i)), (0, .ref sb), (1, .ref x), (2, .ref mm), (3, .ref o)] rfl (by decide) dL_law_251 ?_
    refine v_aload_n C 4 rfl dL_law_253 rfl ?_
    refine v_aload_n C 2 rfl dL_law_254 rfl ?_
    refine v_iload C 1 rfl dL_law_255 ?_
    refine v_iconst (v := 1) C dL_law_257 (by decide) ?_
    refine v_iadd C dL_law_258 (v_eqi (nI_adk i 1 (by decide)) ?_)
    refine v_sld C hX (vpin (show i + 1 < L by omega) (by omega)) dL_law_259 (v_eqi (y := p1) e1 ?_)
    refine v_lt (fun B hB => ?_)
    obtain ⟨xi1, ⟨k1, mo1⟩, -⟩ := id lm
    obtain ⟨ns, na, ia, la, mr, ms, -⟩ := mo1.re hB
    refine v_callV (rest := []) C (c_X5_account l hl G mm (adB ad B) ns na ia la h2 sz p1 h2 mr ms hw) K_L_111 mr.1 rfl rfl (Nat.le_of_ble_eq_true rfl) ⟨Nat.le_of_ble_eq_true rfl, Nat.le_of_ble_eq_true rfl⟩ ⟨by show cs + 10 + 0 ≤ 601024; omega, by show sl + 8000 + 0 ≤ 7293034; omega⟩ dL_law_260 (fun r4 h4 w4 => ?_)
    rcases w4 with ⟨-, mo, er2⟩ | ⟨hn, -⟩
    · obtain ⟨li2, f, ho2, hf⟩ := lm.step hB (wf_account hw hk) mo
      refine v_istore C [(6, .int r4), (5, .int 0), (4, .int (nI i)), (0, .ref sb), (1, .ref x), (2, .ref mm), (3, .ref o)] rfl (by decide) dL_law_263 ?_
      refine v_aload_n C 5 rfl dL_law_265 rfl ?_
      obtain ⟨ns2, na2, ia2, la2, mr2, ms2, ek2⟩ := id mo
      refine v_callV (rest := []) C (c_X5_thrown l hl G mm (adB ad B) ns2 na2 ia2 la2 _ h4 mr2) K_L_105 mr2.1 rfl rfl (Nat.le_of_ble_eq_true rfl) ⟨Nat.le_of_ble_eq_true rfl, Nat.le_of_ble_eq_true rfl⟩ ⟨by show cs + 10 + 0 + 0 ≤ 601024; omega, by show sl + 8000 + 0 + 0 ≤ 7293034; omega⟩ dL_law_266 (fun r5 h5 w5 => ?_)
      obtain ⟨et, rfl⟩ := w5
      rw [ek2] at et; subst et
      refine v_iload C 1 rfl dL_law_269 ?_
      refine v_icmp_eq (tgt := 276) C dL_law_271 (by decide) (fun c6 => ?_) (fun c6 => absurd c6 (by decide))
      refine v_iload C 1 rfl dL_law_276 ?_
      refine v_if_ne (tgt := 293) C dL_law_278 (by decide) (fun c7 => absurd c7 (by decide)) (fun c7 => ?_)
      refine v_aload_n C 6 rfl dL_law_281 rfl ?_
      refine v_iconst (v := 0) C dL_law_282 (by decide) ?_
      refine v_lald C ho2 (show vp_in (0 : Int32) 1 from vpin (n := 0) (N := 1) (by decide) (by decide)) dL_law_283 (v_eql (y := (Int32.toInt64 (nI ((oS sz).length + 1)))) hf ?_)
      refine v_iload C 0 rfl dL_law_284 ?_
      refine v_i2l (v := (r4 : Int32).toInt64) C dL_law_286 rfl ?_
      refine v_lcmp C dL_law_287 ?_
      refine v_if_eq (tgt := 293) C dL_law_288 (by decide) (fun c8 => ?_) (fun c8 => absurd ((lgc_eq _ _).mpr (congrArg Int32.toInt64 er2).symm) c8)
      have c8 := (lgc_eq (Int32.toInt64 (nI ((oS sz).length + 1))) (Int32.toInt64 r4)).mp c8
      refine v_goto (tgt := 1797) C dL_law_293 (by decide) ?_
      refine v_lvp [2, 3, 4, 5, 6] rfl ?_
      exact v_widen (by omega) (by omega) (kk _ _ _ _ li2)
    · exact absurd hk hn
  · obtain ⟨er, g2, lm⟩ := li.no w2 hk
    subst er
    have hk4 : (kAccount sz p1) < 4 := by unfold kAccount; (repeat' split) <;> decide
    refine v_istore C [(5, .int (nI (kAccount sz p1))), (4, .int (nI i)), (0, .ref sb), (1, .ref x), (2, .ref mm), (3, .ref o)] rfl (by decide) dL_law_251 ?_
    refine v_aload_n C 4 rfl dL_law_253 rfl ?_
    refine v_aload_n C 2 rfl dL_law_254 rfl ?_
    refine v_iload C 1 rfl dL_law_255 ?_
    refine v_iconst (v := 1) C dL_law_257 (by decide) ?_
    refine v_iadd C dL_law_258 (v_eqi (nI_adk i 1 (by decide)) ?_)
    refine v_sld C hX (vpin (show i + 1 < L by omega) (by omega)) dL_law_259 (v_eqi (y := p1) e1 ?_)
    refine v_lt (fun B hB => ?_)
    obtain ⟨xi1, ⟨k1, mo1⟩, -⟩ := id lm
    obtain ⟨ns, na, ia, la, mr, ms, -⟩ := mo1.re hB
    refine v_callV (rest := []) C (c_X5_account l hl G mm (adB ad B) ns na ia la h2 sz p1 h2 mr ms hw) K_L_111 mr.1 rfl rfl (Nat.le_of_ble_eq_true rfl) ⟨Nat.le_of_ble_eq_true rfl, Nat.le_of_ble_eq_true rfl⟩ ⟨by show cs + 10 + 0 ≤ 601024; omega, by show sl + 8000 + 0 ≤ 7293034; omega⟩ dL_law_260 (fun r10 h10 w10 => ?_)
    rcases w10 with ⟨hn, -⟩ | ⟨-, mo⟩
    · exact absurd hn hk
    · obtain ⟨li2, -⟩ := lm.step hB hw mo
      refine v_istore C [(6, .int r10), (5, .int (nI (kAccount sz p1))), (4, .int (nI i)), (0, .ref sb), (1, .ref x), (2, .ref mm), (3, .ref o)] rfl (by decide) dL_law_263 ?_
      refine v_aload_n C 5 rfl dL_law_265 rfl ?_
      obtain ⟨ns2, na2, ia2, la2, mr2, ms2, ek2⟩ := id mo
      refine v_callV (rest := []) C (c_X5_thrown l hl G mm (adB ad B) ns2 na2 ia2 la2 _ h10 mr2) K_L_105 mr2.1 rfl rfl (Nat.le_of_ble_eq_true rfl) ⟨Nat.le_of_ble_eq_true rfl, Nat.le_of_ble_eq_true rfl⟩ ⟨by show cs + 10 + 0 + 0 ≤ 601024; omega, by show sl + 8000 + 0 + 0 ≤ 7293034; omega⟩ dL_law_266 (fun r11 h11 w11 => ?_)
      obtain ⟨et, rfl⟩ := w11
      rw [ek2] at et; subst et
      refine v_iload C 1 rfl dL_law_269 ?_
      refine v_icmp_eq (tgt := 276) C dL_law_271 (by decide) (fun c12 => ?_) (fun c12 => absurd (by rfl) c12)
      have c12 := (nn_eq (a := (kAccount sz p1)) (b := (kAccount sz p1)) (by omega) (by omega)).mp c12
      refine v_iload C 1 rfl dL_law_276 ?_
      refine v_if_ne (tgt := 293) C dL_law_278 (by decide) (fun c13 => ?_) (fun c13 => absurd c13 (nI_nz4 hk hk4))
      have c13 := (nk_ne (a := (kAccount sz p1)) 0 (by decide) (by omega) (by decide)).mp c13
      refine v_goto (tgt := 1797) C dL_law_293 (by decide) ?_
      refine v_lvp [2, 3, 4, 5, 6] rfl ?_
      exact v_widen (by omega) (by omega) (kk _ _ _ _ li2)
set_option maxHeartbeats 4000000 in
set_option maxRecDepth 100000 in
theorem law_number {p : Program} {l : Launch} {e : Env} {s : State} {m : MethodId} {args : Array Value} {below : List Frame} {meth : Method} {c : Code} {G : zG} (hl : l.stackTraces = false) (C : zOK p l e room_1 s m args below meth c G cL_law 8 RL) (hNc : zNc s) {sb L : Nat} {xs : Nat → Int32} (hX : va_X sb L xs s s.heap ∧ sb < s.heap.size ∧ sb < gN G) (hL : L ≤ 2048) (i : Nat) (hiL : i + 4 ≤ L) (p1 p2 p3 : Int32) (e1 : xs (nI (i + 1)).toNatClampNeg = p1) (e2 : xs (nI (i + 2)).toNatClampNeg = p2) (e3 : xs (nI (i + 3)).toNatClampNeg = p3) {Q : State → Prop} {h : zH} {g : XGh} {x mm o : Nat} {ad : Nat → Nat} {sz : ZS} (li : LI G h g x mm o ad sz) (cs sl : Nat) (hcs : cs + 20 ≤ 601024) (hsl : sl + 9000 ≤ 7293034) (kk : ∀ (h2 : zH) (g2 : XGh) (ad2 : Nat → Nat) (s2 : ZS), LI G h2 g2 x mm o ad2 s2 → V p l e room_1 s m args below meth c G 8 Q h2 (cs + 20) (sl + 9000) 1797 [(4, .int (nI i)), (0, .ref sb), (1, .ref x), (2, .ref mm), (3, .ref o)] []) : V p l e room_1 s m args below meth c G 8 Q h cs sl 296 [(4, .int (nI i)), (0, .ref sb), (1, .ref x), (2, .ref mm), (3, .ref o)] [] := by
  refine v_aload_n C 2 rfl dL_law_296 rfl ?_
  refine v_aload_n C 1 rfl dL_law_297 rfl ?_
  refine v_iload C 0 rfl dL_law_298 ?_
  refine v_iconst (v := 1) C dL_law_300 (by decide) ?_
  refine v_iadd C dL_law_301 (v_eqi (nI_adk i 1 (by decide)) ?_)
  refine v_sld C hX (vpin (show i + 1 < L by omega) (by omega)) dL_law_302 (v_eqi (y := p1) e1 ?_)
  refine v_aload_n C 4 rfl dL_law_303 rfl ?_
  obtain ⟨xi0, hw, -, -, -, ⟨fo, ho⟩, hro⟩ := id li
  refine v_callL (rest := []) C hNc (c_L_number l hl G x o g sz p1 fo h xi0 hw ho hro) CL_L_112 rfl rfl (Nat.le_of_ble_eq_true rfl) ⟨Nat.le_of_ble_eq_true rfl, Nat.le_of_ble_eq_true rfl⟩ ⟨by show cs + 10 ≤ 601024; omega, by show sl + 8000 ≤ 7293034; omega⟩ dL_law_304 (fun r2 h2 w2 => ?_)
  by_cases hk : (kNumber sz p1) = 0
  · obtain ⟨er, g2, lm⟩ := li.ok w2 hk
    subst er
    refine v_istore C [(5, .int 0), (4, .int (nI i)), (0, .ref sb), (1, .ref x), (2, .ref mm), (3, .ref o)] rfl (by decide) dL_law_307 ?_
    refine v_aload_n C 4 rfl dL_law_309 rfl ?_
    refine v_aload_n C 2 rfl dL_law_310 rfl ?_
    refine v_iload C 1 rfl dL_law_311 ?_
    refine v_iconst (v := 1) C dL_law_313 (by decide) ?_
    refine v_iadd C dL_law_314 (v_eqi (nI_adk i 1 (by decide)) ?_)
    refine v_sld C hX (vpin (show i + 1 < L by omega) (by omega)) dL_law_315 (v_eqi (y := p1) e1 ?_)
    refine v_lt (fun B hB => ?_)
    obtain ⟨xi1, ⟨k1, mo1⟩, -⟩ := id lm
    obtain ⟨ns, na, ia, la, mr, ms, -⟩ := mo1.re hB
    refine v_callV (rest := []) C (c_X5_number l hl G mm (adB ad B) ns na ia la h2 sz p1 h2 mr ms hw) K_L_114 mr.1 rfl rfl (Nat.le_of_ble_eq_true rfl) ⟨Nat.le_of_ble_eq_true rfl, Nat.le_of_ble_eq_true rfl⟩ ⟨by show cs + 10 + 0 ≤ 601024; omega, by show sl + 8000 + 0 ≤ 7293034; omega⟩ dL_law_316 (fun r4 h4 w4 => ?_)
    rcases w4 with ⟨-, mo, er2⟩ | ⟨hn, -⟩
    · obtain ⟨li2, f, ho2, hf⟩ := lm.step hB (wf_number hw hk) mo
      refine v_istore C [(6, .int r4), (5, .int 0), (4, .int (nI i)), (0, .ref sb), (1, .ref x), (2, .ref mm), (3, .ref o)] rfl (by decide) dL_law_319 ?_
      refine v_aload_n C 5 rfl dL_law_321 rfl ?_
      obtain ⟨ns2, na2, ia2, la2, mr2, ms2, ek2⟩ := id mo
      refine v_callV (rest := []) C (c_X5_thrown l hl G mm (adB ad B) ns2 na2 ia2 la2 _ h4 mr2) K_L_105 mr2.1 rfl rfl (Nat.le_of_ble_eq_true rfl) ⟨Nat.le_of_ble_eq_true rfl, Nat.le_of_ble_eq_true rfl⟩ ⟨by show cs + 10 + 0 + 0 ≤ 601024; omega, by show sl + 8000 + 0 + 0 ≤ 7293034; omega⟩ dL_law_322 (fun r5 h5 w5 => ?_)
      obtain ⟨et, rfl⟩ := w5
      rw [ek2] at et; subst et
      refine v_iload C 1 rfl dL_law_325 ?_
      refine v_icmp_eq (tgt := 332) C dL_law_327 (by decide) (fun c6 => ?_) (fun c6 => absurd c6 (by decide))
      refine v_iload C 1 rfl dL_law_332 ?_
      refine v_if_ne (tgt := 349) C dL_law_334 (by decide) (fun c7 => absurd c7 (by decide)) (fun c7 => ?_)
      refine v_aload_n C 6 rfl dL_law_337 rfl ?_
      refine v_iconst (v := 0) C dL_law_338 (by decide) ?_
      refine v_lald C ho2 (show vp_in (0 : Int32) 1 from vpin (n := 0) (N := 1) (by decide) (by decide)) dL_law_339 (v_eql (y := (Int32.toInt64 (nI ((oS sz).length + 1)))) hf ?_)
      refine v_iload C 0 rfl dL_law_340 ?_
      refine v_i2l (v := (r4 : Int32).toInt64) C dL_law_342 rfl ?_
      refine v_lcmp C dL_law_343 ?_
      refine v_if_eq (tgt := 349) C dL_law_344 (by decide) (fun c8 => ?_) (fun c8 => absurd ((lgc_eq _ _).mpr (congrArg Int32.toInt64 er2).symm) c8)
      have c8 := (lgc_eq (Int32.toInt64 (nI ((oS sz).length + 1))) (Int32.toInt64 r4)).mp c8
      refine v_goto (tgt := 1797) C dL_law_349 (by decide) ?_
      refine v_lvp [2, 3, 4, 5, 6] rfl ?_
      exact v_widen (by omega) (by omega) (kk _ _ _ _ li2)
    · exact absurd hk hn
  · obtain ⟨er, g2, lm⟩ := li.no w2 hk
    subst er
    have hk4 : (kNumber sz p1) < 4 := by unfold kNumber; (repeat' split) <;> decide
    refine v_istore C [(5, .int (nI (kNumber sz p1))), (4, .int (nI i)), (0, .ref sb), (1, .ref x), (2, .ref mm), (3, .ref o)] rfl (by decide) dL_law_307 ?_
    refine v_aload_n C 4 rfl dL_law_309 rfl ?_
    refine v_aload_n C 2 rfl dL_law_310 rfl ?_
    refine v_iload C 1 rfl dL_law_311 ?_
    refine v_iconst (v := 1) C dL_law_313 (by decide) ?_
    refine v_iadd C dL_law_314 (v_eqi (nI_adk i 1 (by decide)) ?_)
    refine v_sld C hX (vpin (show i + 1 < L by omega) (by omega)) dL_law_315 (v_eqi (y := p1) e1 ?_)
    refine v_lt (fun B hB => ?_)
    obtain ⟨xi1, ⟨k1, mo1⟩, -⟩ := id lm
    obtain ⟨ns, na, ia, la, mr, ms, -⟩ := mo1.re hB
    refine v_callV (rest := []) C (c_X5_number l hl G mm (adB ad B) ns na ia la h2 sz p1 h2 mr ms hw) K_L_114 mr.1 rfl rfl (Nat.le_of_ble_eq_true rfl) ⟨Nat.le_of_ble_eq_true rfl, Nat.le_of_ble_eq_true rfl⟩ ⟨by show cs + 10 + 0 ≤ 601024; omega, by show sl + 8000 + 0 ≤ 7293034; omega⟩ dL_law_316 (fun r10 h10 w10 => ?_)
    rcases w10 with ⟨hn, -⟩ | ⟨-, mo⟩
    · exact absurd hn hk
    · obtain ⟨li2, -⟩ := lm.step hB hw mo
      refine v_istore C [(6, .int r10), (5, .int (nI (kNumber sz p1))), (4, .int (nI i)), (0, .ref sb), (1, .ref x), (2, .ref mm), (3, .ref o)] rfl (by decide) dL_law_319 ?_
      refine v_aload_n C 5 rfl dL_law_321 rfl ?_
      obtain ⟨ns2, na2, ia2, la2, mr2, ms2, ek2⟩ := id mo
      refine v_callV (rest := []) C (c_X5_thrown l hl G mm (adB ad B) ns2 na2 ia2 la2 _ h10 mr2) K_L_105 mr2.1 rfl rfl (Nat.le_of_ble_eq_true rfl) ⟨Nat.le_of_ble_eq_true rfl, Nat.le_of_ble_eq_true rfl⟩ ⟨by show cs + 10 + 0 + 0 ≤ 601024; omega, by show sl + 8000 + 0 + 0 ≤ 7293034; omega⟩ dL_law_322 (fun r11 h11 w11 => ?_)
      obtain ⟨et, rfl⟩ := w11
      rw [ek2] at et; subst et
      refine v_iload C 1 rfl dL_law_325 ?_
      refine v_icmp_eq (tgt := 332) C dL_law_327 (by decide) (fun c12 => ?_) (fun c12 => absurd (by rfl) c12)
      have c12 := (nn_eq (a := (kNumber sz p1)) (b := (kNumber sz p1)) (by omega) (by omega)).mp c12
      refine v_iload C 1 rfl dL_law_332 ?_
      refine v_if_ne (tgt := 349) C dL_law_334 (by decide) (fun c13 => ?_) (fun c13 => absurd c13 (nI_nz4 hk hk4))
      have c13 := (nk_ne (a := (kNumber sz p1)) 0 (by decide) (by omega) (by decide)).mp c13
      refine v_goto (tgt := 1797) C dL_law_349 (by decide) ?_
      refine v_lvp [2, 3, 4, 5, 6] rfl ?_
      exact v_widen (by omega) (by omega) (kk _ _ _ _ li2)
set_option maxHeartbeats 4000000 in
set_option maxRecDepth 100000 in
theorem law_term {p : Program} {l : Launch} {e : Env} {s : State} {m : MethodId} {args : Array Value} {below : List Frame} {meth : Method} {c : Code} {G : zG} (hl : l.stackTraces = false) (C : zOK p l e room_1 s m args below meth c G cL_law 8 RL) (hNc : zNc s) {sb L : Nat} {xs : Nat → Int32} (hX : va_X sb L xs s s.heap ∧ sb < s.heap.size ∧ sb < gN G) (hL : L ≤ 2048) (i : Nat) (hiL : i + 4 ≤ L) (p1 p2 p3 : Int32) (e1 : xs (nI (i + 1)).toNatClampNeg = p1) (e2 : xs (nI (i + 2)).toNatClampNeg = p2) (e3 : xs (nI (i + 3)).toNatClampNeg = p3) {Q : State → Prop} {h : zH} {g : XGh} {x mm o : Nat} {ad : Nat → Nat} {sz : ZS} (li : LI G h g x mm o ad sz) (cs sl : Nat) (hcs : cs + 20 ≤ 601024) (hsl : sl + 9000 ≤ 7293034) (kk : ∀ (h2 : zH) (g2 : XGh) (ad2 : Nat → Nat) (s2 : ZS), LI G h2 g2 x mm o ad2 s2 → V p l e room_1 s m args below meth c G 8 Q h2 (cs + 20) (sl + 9000) 1797 [(4, .int (nI i)), (0, .ref sb), (1, .ref x), (2, .ref mm), (3, .ref o)] []) : V p l e room_1 s m args below meth c G 8 Q h cs sl 352 [(4, .int (nI i)), (0, .ref sb), (1, .ref x), (2, .ref mm), (3, .ref o)] [] := by
  refine v_aload_n C 2 rfl dL_law_352 rfl ?_
  refine v_aload_n C 1 rfl dL_law_353 rfl ?_
  refine v_iload C 0 rfl dL_law_354 ?_
  refine v_iconst (v := 1) C dL_law_356 (by decide) ?_
  refine v_iadd C dL_law_357 (v_eqi (nI_adk i 1 (by decide)) ?_)
  refine v_sld C hX (vpin (show i + 1 < L by omega) (by omega)) dL_law_358 (v_eqi (y := p1) e1 ?_)
  refine v_aload_n C 4 rfl dL_law_359 rfl ?_
  obtain ⟨xi0, hw, -, -, -, ⟨fo, ho⟩, hro⟩ := id li
  refine v_callL (rest := []) C hNc (c_L_term l hl G x o g sz p1 fo h xi0 hw ho hro) CL_L_115 rfl rfl (Nat.le_of_ble_eq_true rfl) ⟨Nat.le_of_ble_eq_true rfl, Nat.le_of_ble_eq_true rfl⟩ ⟨by show cs + 10 ≤ 601024; omega, by show sl + 8000 ≤ 7293034; omega⟩ dL_law_360 (fun r2 h2 w2 => ?_)
  by_cases hk : (kTerm sz p1) = 0
  · obtain ⟨er, g2, lm⟩ := li.ok w2 hk
    subst er
    refine v_istore C [(5, .int 0), (4, .int (nI i)), (0, .ref sb), (1, .ref x), (2, .ref mm), (3, .ref o)] rfl (by decide) dL_law_363 ?_
    refine v_aload_n C 4 rfl dL_law_365 rfl ?_
    refine v_aload_n C 2 rfl dL_law_366 rfl ?_
    refine v_iload C 1 rfl dL_law_367 ?_
    refine v_iconst (v := 1) C dL_law_369 (by decide) ?_
    refine v_iadd C dL_law_370 (v_eqi (nI_adk i 1 (by decide)) ?_)
    refine v_sld C hX (vpin (show i + 1 < L by omega) (by omega)) dL_law_371 (v_eqi (y := p1) e1 ?_)
    refine v_lt (fun B hB => ?_)
    obtain ⟨xi1, ⟨k1, mo1⟩, -⟩ := id lm
    obtain ⟨ns, na, ia, la, mr, ms, -⟩ := mo1.re hB
    refine v_callV (rest := []) C (c_X5_term l hl G mm (adB ad B) ns na ia la h2 sz p1 h2 mr ms hw) K_L_117 mr.1 rfl rfl (Nat.le_of_ble_eq_true rfl) ⟨Nat.le_of_ble_eq_true rfl, Nat.le_of_ble_eq_true rfl⟩ ⟨by show cs + 10 + 0 ≤ 601024; omega, by show sl + 8000 + 0 ≤ 7293034; omega⟩ dL_law_372 (fun r4 h4 w4 => ?_)
    rcases w4 with ⟨-, mo, er2⟩ | ⟨hn, -⟩
    · obtain ⟨li2, f, ho2, hf⟩ := lm.step hB (wf_term hw hk) mo
      refine v_istore C [(6, .int r4), (5, .int 0), (4, .int (nI i)), (0, .ref sb), (1, .ref x), (2, .ref mm), (3, .ref o)] rfl (by decide) dL_law_375 ?_
      refine v_aload_n C 5 rfl dL_law_377 rfl ?_
      obtain ⟨ns2, na2, ia2, la2, mr2, ms2, ek2⟩ := id mo
      refine v_callV (rest := []) C (c_X5_thrown l hl G mm (adB ad B) ns2 na2 ia2 la2 _ h4 mr2) K_L_105 mr2.1 rfl rfl (Nat.le_of_ble_eq_true rfl) ⟨Nat.le_of_ble_eq_true rfl, Nat.le_of_ble_eq_true rfl⟩ ⟨by show cs + 10 + 0 + 0 ≤ 601024; omega, by show sl + 8000 + 0 + 0 ≤ 7293034; omega⟩ dL_law_378 (fun r5 h5 w5 => ?_)
      obtain ⟨et, rfl⟩ := w5
      rw [ek2] at et; subst et
      refine v_iload C 1 rfl dL_law_381 ?_
      refine v_icmp_eq (tgt := 388) C dL_law_383 (by decide) (fun c6 => ?_) (fun c6 => absurd c6 (by decide))
      refine v_iload C 1 rfl dL_law_388 ?_
      refine v_if_ne (tgt := 405) C dL_law_390 (by decide) (fun c7 => absurd c7 (by decide)) (fun c7 => ?_)
      refine v_aload_n C 6 rfl dL_law_393 rfl ?_
      refine v_iconst (v := 0) C dL_law_394 (by decide) ?_
      refine v_lald C ho2 (show vp_in (0 : Int32) 1 from vpin (n := 0) (N := 1) (by decide) (by decide)) dL_law_395 (v_eql (y := (Int32.toInt64 (nI ((oS sz).length + 1)))) hf ?_)
      refine v_iload C 0 rfl dL_law_396 ?_
      refine v_i2l (v := (r4 : Int32).toInt64) C dL_law_398 rfl ?_
      refine v_lcmp C dL_law_399 ?_
      refine v_if_eq (tgt := 405) C dL_law_400 (by decide) (fun c8 => ?_) (fun c8 => absurd ((lgc_eq _ _).mpr (congrArg Int32.toInt64 er2).symm) c8)
      have c8 := (lgc_eq (Int32.toInt64 (nI ((oS sz).length + 1))) (Int32.toInt64 r4)).mp c8
      refine v_goto (tgt := 1797) C dL_law_405 (by decide) ?_
      refine v_lvp [2, 3, 4, 5, 6] rfl ?_
      exact v_widen (by omega) (by omega) (kk _ _ _ _ li2)
    · exact absurd hk hn
  · obtain ⟨er, g2, lm⟩ := li.no w2 hk
    subst er
    have hk4 : (kTerm sz p1) < 4 := by unfold kTerm; (repeat' split) <;> decide
    refine v_istore C [(5, .int (nI (kTerm sz p1))), (4, .int (nI i)), (0, .ref sb), (1, .ref x), (2, .ref mm), (3, .ref o)] rfl (by decide) dL_law_363 ?_
    refine v_aload_n C 4 rfl dL_law_365 rfl ?_
    refine v_aload_n C 2 rfl dL_law_366 rfl ?_
    refine v_iload C 1 rfl dL_law_367 ?_
    refine v_iconst (v := 1) C dL_law_369 (by decide) ?_
    refine v_iadd C dL_law_370 (v_eqi (nI_adk i 1 (by decide)) ?_)
    refine v_sld C hX (vpin (show i + 1 < L by omega) (by omega)) dL_law_371 (v_eqi (y := p1) e1 ?_)
    refine v_lt (fun B hB => ?_)
    obtain ⟨xi1, ⟨k1, mo1⟩, -⟩ := id lm
    obtain ⟨ns, na, ia, la, mr, ms, -⟩ := mo1.re hB
    refine v_callV (rest := []) C (c_X5_term l hl G mm (adB ad B) ns na ia la h2 sz p1 h2 mr ms hw) K_L_117 mr.1 rfl rfl (Nat.le_of_ble_eq_true rfl) ⟨Nat.le_of_ble_eq_true rfl, Nat.le_of_ble_eq_true rfl⟩ ⟨by show cs + 10 + 0 ≤ 601024; omega, by show sl + 8000 + 0 ≤ 7293034; omega⟩ dL_law_372 (fun r10 h10 w10 => ?_)
    rcases w10 with ⟨hn, -⟩ | ⟨-, mo⟩
    · exact absurd hn hk
    · obtain ⟨li2, -⟩ := lm.step hB hw mo
      refine v_istore C [(6, .int r10), (5, .int (nI (kTerm sz p1))), (4, .int (nI i)), (0, .ref sb), (1, .ref x), (2, .ref mm), (3, .ref o)] rfl (by decide) dL_law_375 ?_
      refine v_aload_n C 5 rfl dL_law_377 rfl ?_
      obtain ⟨ns2, na2, ia2, la2, mr2, ms2, ek2⟩ := id mo
      refine v_callV (rest := []) C (c_X5_thrown l hl G mm (adB ad B) ns2 na2 ia2 la2 _ h10 mr2) K_L_105 mr2.1 rfl rfl (Nat.le_of_ble_eq_true rfl) ⟨Nat.le_of_ble_eq_true rfl, Nat.le_of_ble_eq_true rfl⟩ ⟨by show cs + 10 + 0 + 0 ≤ 601024; omega, by show sl + 8000 + 0 + 0 ≤ 7293034; omega⟩ dL_law_378 (fun r11 h11 w11 => ?_)
      obtain ⟨et, rfl⟩ := w11
      rw [ek2] at et; subst et
      refine v_iload C 1 rfl dL_law_381 ?_
      refine v_icmp_eq (tgt := 388) C dL_law_383 (by decide) (fun c12 => ?_) (fun c12 => absurd (by rfl) c12)
      have c12 := (nn_eq (a := (kTerm sz p1)) (b := (kTerm sz p1)) (by omega) (by omega)).mp c12
      refine v_iload C 1 rfl dL_law_388 ?_
      refine v_if_ne (tgt := 405) C dL_law_390 (by decide) (fun c13 => ?_) (fun c13 => absurd c13 (nI_nz4 hk hk4))
      have c13 := (nk_ne (a := (kTerm sz p1)) 0 (by decide) (by omega) (by decide)).mp c13
      refine v_goto (tgt := 1797) C dL_law_405 (by decide) ?_
      refine v_lvp [2, 3, 4, 5, 6] rfl ?_
      exact v_widen (by omega) (by omega) (kk _ _ _ _ li2)
set_option maxHeartbeats 4000000 in
set_option maxRecDepth 100000 in
theorem law_join {p : Program} {l : Launch} {e : Env} {s : State} {m : MethodId} {args : Array Value} {below : List Frame} {meth : Method} {c : Code} {G : zG} (hl : l.stackTraces = false) (C : zOK p l e room_1 s m args below meth c G cL_law 8 RL) (hNc : zNc s) {sb L : Nat} {xs : Nat → Int32} (hX : va_X sb L xs s s.heap ∧ sb < s.heap.size ∧ sb < gN G) (hL : L ≤ 2048) (i : Nat) (hiL : i + 4 ≤ L) (p1 p2 p3 : Int32) (e1 : xs (nI (i + 1)).toNatClampNeg = p1) (e2 : xs (nI (i + 2)).toNatClampNeg = p2) (e3 : xs (nI (i + 3)).toNatClampNeg = p3) {Q : State → Prop} {h : zH} {g : XGh} {x mm o : Nat} {ad : Nat → Nat} {sz : ZS} (li : LI G h g x mm o ad sz) (cs sl : Nat) (hcs : cs + 20 ≤ 601024) (hsl : sl + 9000 ≤ 7293034) (kk : ∀ (h2 : zH) (g2 : XGh) (ad2 : Nat → Nat) (s2 : ZS), LI G h2 g2 x mm o ad2 s2 → V p l e room_1 s m args below meth c G 8 Q h2 (cs + 20) (sl + 9000) 1797 [(4, .int (nI i)), (0, .ref sb), (1, .ref x), (2, .ref mm), (3, .ref o)] []) : V p l e room_1 s m args below meth c G 8 Q h cs sl 408 [(4, .int (nI i)), (0, .ref sb), (1, .ref x), (2, .ref mm), (3, .ref o)] [] := by
  refine v_aload_n C 2 rfl dL_law_408 rfl ?_
  refine v_aload_n C 1 rfl dL_law_409 rfl ?_
  refine v_iload C 0 rfl dL_law_410 ?_
  refine v_iconst (v := 1) C dL_law_412 (by decide) ?_
  refine v_iadd C dL_law_413 (v_eqi (nI_adk i 1 (by decide)) ?_)
  refine v_sld C hX (vpin (show i + 1 < L by omega) (by omega)) dL_law_414 (v_eqi (y := p1) e1 ?_)
  refine v_aload_n C 4 rfl dL_law_415 rfl ?_
  obtain ⟨xi0, hw, -, -, -, ⟨fo, ho⟩, hro⟩ := id li
  refine v_callL (rest := []) C hNc (c_L_join l hl G x o g sz p1 fo h xi0 hw ho hro) CL_L_118 rfl rfl (Nat.le_of_ble_eq_true rfl) ⟨Nat.le_of_ble_eq_true rfl, Nat.le_of_ble_eq_true rfl⟩ ⟨by show cs + 20 ≤ 601024; omega, by show sl + 9000 ≤ 7293034; omega⟩ dL_law_416 (fun r2 h2 w2 => ?_)
  by_cases hk : (kJoin sz p1) = 0
  · obtain ⟨er, g2, lm⟩ := li.ok w2 hk
    subst er
    refine v_istore C [(5, .int 0), (4, .int (nI i)), (0, .ref sb), (1, .ref x), (2, .ref mm), (3, .ref o)] rfl (by decide) dL_law_419 ?_
    refine v_aload_n C 4 rfl dL_law_421 rfl ?_
    refine v_aload_n C 2 rfl dL_law_422 rfl ?_
    refine v_iload C 1 rfl dL_law_423 ?_
    refine v_iconst (v := 1) C dL_law_425 (by decide) ?_
    refine v_iadd C dL_law_426 (v_eqi (nI_adk i 1 (by decide)) ?_)
    refine v_sld C hX (vpin (show i + 1 < L by omega) (by omega)) dL_law_427 (v_eqi (y := p1) e1 ?_)
    refine v_lt (fun B hB => ?_)
    obtain ⟨xi1, ⟨k1, mo1⟩, -⟩ := id lm
    obtain ⟨ns, na, ia, la, mr, ms, -⟩ := mo1.re hB
    refine v_callV (rest := []) C (c_X5_join l hl G mm (adB ad B) ns na ia la h2 sz p1 h2 mr ms hw) K_L_120 mr.1 rfl rfl (Nat.le_of_ble_eq_true rfl) ⟨Nat.le_of_ble_eq_true rfl, Nat.le_of_ble_eq_true rfl⟩ ⟨by show cs + 20 + 0 ≤ 601024; omega, by show sl + 9000 + 0 ≤ 7293034; omega⟩ dL_law_428 (fun r4 h4 w4 => ?_)
    rcases w4 with ⟨-, mo, er2⟩ | ⟨hn, -⟩
    · obtain ⟨li2, f, ho2, hf⟩ := lm.step hB (wf_join hw hk) mo
      refine v_istore C [(6, .int r4), (5, .int 0), (4, .int (nI i)), (0, .ref sb), (1, .ref x), (2, .ref mm), (3, .ref o)] rfl (by decide) dL_law_431 ?_
      refine v_aload_n C 5 rfl dL_law_433 rfl ?_
      obtain ⟨ns2, na2, ia2, la2, mr2, ms2, ek2⟩ := id mo
      refine v_callV (rest := []) C (c_X5_thrown l hl G mm (adB ad B) ns2 na2 ia2 la2 _ h4 mr2) K_L_105 mr2.1 rfl rfl (Nat.le_of_ble_eq_true rfl) ⟨Nat.le_of_ble_eq_true rfl, Nat.le_of_ble_eq_true rfl⟩ ⟨by show cs + 20 + 0 + 0 ≤ 601024; omega, by show sl + 9000 + 0 + 0 ≤ 7293034; omega⟩ dL_law_434 (fun r5 h5 w5 => ?_)
      obtain ⟨et, rfl⟩ := w5
      rw [ek2] at et; subst et
      refine v_iload C 1 rfl dL_law_437 ?_
      refine v_icmp_eq (tgt := 444) C dL_law_439 (by decide) (fun c6 => ?_) (fun c6 => absurd c6 (by decide))
      refine v_iload C 1 rfl dL_law_444 ?_
      refine v_if_ne (tgt := 461) C dL_law_446 (by decide) (fun c7 => absurd c7 (by decide)) (fun c7 => ?_)
      refine v_aload_n C 6 rfl dL_law_449 rfl ?_
      refine v_iconst (v := 0) C dL_law_450 (by decide) ?_
      refine v_lald C ho2 (show vp_in (0 : Int32) 1 from vpin (n := 0) (N := 1) (by decide) (by decide)) dL_law_451 (v_eql (y := (Int32.toInt64 (nI ((oS sz).length - 1)))) hf ?_)
      refine v_iload C 0 rfl dL_law_452 ?_
      refine v_i2l (v := (r4 : Int32).toInt64) C dL_law_454 rfl ?_
      refine v_lcmp C dL_law_455 ?_
      refine v_if_eq (tgt := 461) C dL_law_456 (by decide) (fun c8 => ?_) (fun c8 => absurd ((lgc_eq _ _).mpr (congrArg Int32.toInt64 er2).symm) c8)
      have c8 := (lgc_eq (Int32.toInt64 (nI ((oS sz).length - 1))) (Int32.toInt64 r4)).mp c8
      refine v_goto (tgt := 1797) C dL_law_461 (by decide) ?_
      refine v_lvp [2, 3, 4, 5, 6] rfl ?_
      exact v_widen (by omega) (by omega) (kk _ _ _ _ li2)
    · exact absurd hk hn
  · obtain ⟨er, g2, lm⟩ := li.no w2 hk
    subst er
    have hk4 : (kJoin sz p1) < 4 := by unfold kJoin; (repeat' split) <;> decide
    refine v_istore C [(5, .int (nI (kJoin sz p1))), (4, .int (nI i)), (0, .ref sb), (1, .ref x), (2, .ref mm), (3, .ref o)] rfl (by decide) dL_law_419 ?_
    refine v_aload_n C 4 rfl dL_law_421 rfl ?_
    refine v_aload_n C 2 rfl dL_law_422 rfl ?_
    refine v_iload C 1 rfl dL_law_423 ?_
    refine v_iconst (v := 1) C dL_law_425 (by decide) ?_
    refine v_iadd C dL_law_426 (v_eqi (nI_adk i 1 (by decide)) ?_)
    refine v_sld C hX (vpin (show i + 1 < L by omega) (by omega)) dL_law_427 (v_eqi (y := p1) e1 ?_)
    refine v_lt (fun B hB => ?_)
    obtain ⟨xi1, ⟨k1, mo1⟩, -⟩ := id lm
    obtain ⟨ns, na, ia, la, mr, ms, -⟩ := mo1.re hB
    refine v_callV (rest := []) C (c_X5_join l hl G mm (adB ad B) ns na ia la h2 sz p1 h2 mr ms hw) K_L_120 mr.1 rfl rfl (Nat.le_of_ble_eq_true rfl) ⟨Nat.le_of_ble_eq_true rfl, Nat.le_of_ble_eq_true rfl⟩ ⟨by show cs + 20 + 0 ≤ 601024; omega, by show sl + 9000 + 0 ≤ 7293034; omega⟩ dL_law_428 (fun r10 h10 w10 => ?_)
    rcases w10 with ⟨hn, -⟩ | ⟨-, mo⟩
    · exact absurd hn hk
    · obtain ⟨li2, -⟩ := lm.step hB hw mo
      refine v_istore C [(6, .int r10), (5, .int (nI (kJoin sz p1))), (4, .int (nI i)), (0, .ref sb), (1, .ref x), (2, .ref mm), (3, .ref o)] rfl (by decide) dL_law_431 ?_
      refine v_aload_n C 5 rfl dL_law_433 rfl ?_
      obtain ⟨ns2, na2, ia2, la2, mr2, ms2, ek2⟩ := id mo
      refine v_callV (rest := []) C (c_X5_thrown l hl G mm (adB ad B) ns2 na2 ia2 la2 _ h10 mr2) K_L_105 mr2.1 rfl rfl (Nat.le_of_ble_eq_true rfl) ⟨Nat.le_of_ble_eq_true rfl, Nat.le_of_ble_eq_true rfl⟩ ⟨by show cs + 20 + 0 + 0 ≤ 601024; omega, by show sl + 9000 + 0 + 0 ≤ 7293034; omega⟩ dL_law_434 (fun r11 h11 w11 => ?_)
      obtain ⟨et, rfl⟩ := w11
      rw [ek2] at et; subst et
      refine v_iload C 1 rfl dL_law_437 ?_
      refine v_icmp_eq (tgt := 444) C dL_law_439 (by decide) (fun c12 => ?_) (fun c12 => absurd (by rfl) c12)
      have c12 := (nn_eq (a := (kJoin sz p1)) (b := (kJoin sz p1)) (by omega) (by omega)).mp c12
      refine v_iload C 1 rfl dL_law_444 ?_
      refine v_if_ne (tgt := 461) C dL_law_446 (by decide) (fun c13 => ?_) (fun c13 => absurd c13 (nI_nz4 hk hk4))
      have c13 := (nk_ne (a := (kJoin sz p1)) 0 (by decide) (by omega) (by decide)).mp c13
      refine v_goto (tgt := 1797) C dL_law_461 (by decide) ?_
      refine v_lvp [2, 3, 4, 5, 6] rfl ?_
      exact v_widen (by omega) (by omega) (kk _ _ _ _ li2)
set_option maxHeartbeats 4000000 in
set_option maxRecDepth 100000 in
theorem law_share {p : Program} {l : Launch} {e : Env} {s : State} {m : MethodId} {args : Array Value} {below : List Frame} {meth : Method} {c : Code} {G : zG} (hl : l.stackTraces = false) (C : zOK p l e room_1 s m args below meth c G cL_law 8 RL) (hNc : zNc s) {sb L : Nat} {xs : Nat → Int32} (hX : va_X sb L xs s s.heap ∧ sb < s.heap.size ∧ sb < gN G) (hL : L ≤ 2048) (i : Nat) (hiL : i + 4 ≤ L) (p1 p2 p3 : Int32) (e1 : xs (nI (i + 1)).toNatClampNeg = p1) (e2 : xs (nI (i + 2)).toNatClampNeg = p2) (e3 : xs (nI (i + 3)).toNatClampNeg = p3) {Q : State → Prop} {h : zH} {g : XGh} {x mm o : Nat} {ad : Nat → Nat} {sz : ZS} (li : LI G h g x mm o ad sz) (cs sl : Nat) (hcs : cs + 20 ≤ 601024) (hsl : sl + 9000 ≤ 7293034) (kk : ∀ (h2 : zH) (g2 : XGh) (ad2 : Nat → Nat) (s2 : ZS), LI G h2 g2 x mm o ad2 s2 → V p l e room_1 s m args below meth c G 8 Q h2 (cs + 20) (sl + 9000) 1797 [(4, .int (nI i)), (0, .ref sb), (1, .ref x), (2, .ref mm), (3, .ref o)] []) : V p l e room_1 s m args below meth c G 8 Q h cs sl 464 [(4, .int (nI i)), (0, .ref sb), (1, .ref x), (2, .ref mm), (3, .ref o)] [] := by
  refine v_aload_n C 2 rfl dL_law_464 rfl ?_
  refine v_aload_n C 1 rfl dL_law_465 rfl ?_
  refine v_iload C 0 rfl dL_law_466 ?_
  refine v_iconst (v := 1) C dL_law_468 (by decide) ?_
  refine v_iadd C dL_law_469 (v_eqi (nI_adk i 1 (by decide)) ?_)
  refine v_sld C hX (vpin (show i + 1 < L by omega) (by omega)) dL_law_470 (v_eqi (y := p1) e1 ?_)
  refine v_aload_n C 4 rfl dL_law_471 rfl ?_
  obtain ⟨xi0, hw, -, -, -, ⟨fo, ho⟩, hro⟩ := id li
  refine v_callL (rest := []) C hNc (c_L_share l hl G x o g sz p1 fo h xi0 hw ho hro) CL_L_121 rfl rfl (Nat.le_of_ble_eq_true rfl) ⟨Nat.le_of_ble_eq_true rfl, Nat.le_of_ble_eq_true rfl⟩ ⟨by show cs + 20 ≤ 601024; omega, by show sl + 9000 ≤ 7293034; omega⟩ dL_law_472 (fun r2 h2 w2 => ?_)
  by_cases hk : (kShare sz p1) = 0
  · obtain ⟨er, g2, lm⟩ := li.ok w2 hk
    subst er
    refine v_istore C [(5, .int 0), (4, .int (nI i)), (0, .ref sb), (1, .ref x), (2, .ref mm), (3, .ref o)] rfl (by decide) dL_law_475 ?_
    refine v_aload_n C 4 rfl dL_law_477 rfl ?_
    refine v_aload_n C 2 rfl dL_law_478 rfl ?_
    refine v_iload C 1 rfl dL_law_479 ?_
    refine v_iconst (v := 1) C dL_law_481 (by decide) ?_
    refine v_iadd C dL_law_482 (v_eqi (nI_adk i 1 (by decide)) ?_)
    refine v_sld C hX (vpin (show i + 1 < L by omega) (by omega)) dL_law_483 (v_eqi (y := p1) e1 ?_)
    refine v_lt (fun B hB => ?_)
    obtain ⟨xi1, ⟨k1, mo1⟩, -⟩ := id lm
    obtain ⟨ns, na, ia, la, mr, ms, -⟩ := mo1.re hB
    refine v_callV (rest := []) C (c_X5_share l hl G mm (adB ad B) ns na ia la h2 sz p1 h2 mr ms hw) K_L_123 mr.1 rfl rfl (Nat.le_of_ble_eq_true rfl) ⟨Nat.le_of_ble_eq_true rfl, Nat.le_of_ble_eq_true rfl⟩ ⟨by show cs + 20 + 0 ≤ 601024; omega, by show sl + 9000 + 0 ≤ 7293034; omega⟩ dL_law_484 (fun r4 h4 w4 => ?_)
    rcases w4 with ⟨-, mo, er2⟩ | ⟨hn, -⟩
    · obtain ⟨li2, f, ho2, hf⟩ := lm.step hB (wf_share hw hk) mo
      refine v_istore C [(6, .int r4), (5, .int 0), (4, .int (nI i)), (0, .ref sb), (1, .ref x), (2, .ref mm), (3, .ref o)] rfl (by decide) dL_law_487 ?_
      refine v_aload_n C 5 rfl dL_law_489 rfl ?_
      obtain ⟨ns2, na2, ia2, la2, mr2, ms2, ek2⟩ := id mo
      refine v_callV (rest := []) C (c_X5_thrown l hl G mm (adB ad B) ns2 na2 ia2 la2 _ h4 mr2) K_L_105 mr2.1 rfl rfl (Nat.le_of_ble_eq_true rfl) ⟨Nat.le_of_ble_eq_true rfl, Nat.le_of_ble_eq_true rfl⟩ ⟨by show cs + 20 + 0 + 0 ≤ 601024; omega, by show sl + 9000 + 0 + 0 ≤ 7293034; omega⟩ dL_law_490 (fun r5 h5 w5 => ?_)
      obtain ⟨et, rfl⟩ := w5
      rw [ek2] at et; subst et
      refine v_iload C 1 rfl dL_law_493 ?_
      refine v_icmp_eq (tgt := 500) C dL_law_495 (by decide) (fun c6 => ?_) (fun c6 => absurd c6 (by decide))
      refine v_iload C 1 rfl dL_law_500 ?_
      refine v_if_ne (tgt := 517) C dL_law_502 (by decide) (fun c7 => absurd c7 (by decide)) (fun c7 => ?_)
      refine v_aload_n C 6 rfl dL_law_505 rfl ?_
      refine v_iconst (v := 0) C dL_law_506 (by decide) ?_
      refine v_lald C ho2 (show vp_in (0 : Int32) 1 from vpin (n := 0) (N := 1) (by decide) (by decide)) dL_law_507 (v_eql (y := (Int32.toInt64 (nI ((top1 sz).2 + 1)))) hf ?_)
      refine v_iload C 0 rfl dL_law_508 ?_
      refine v_i2l (v := (r4 : Int32).toInt64) C dL_law_510 rfl ?_
      refine v_lcmp C dL_law_511 ?_
      refine v_if_eq (tgt := 517) C dL_law_512 (by decide) (fun c8 => ?_) (fun c8 => absurd ((lgc_eq _ _).mpr (congrArg Int32.toInt64 er2).symm) c8)
      have c8 := (lgc_eq (Int32.toInt64 (nI ((top1 sz).2 + 1))) (Int32.toInt64 r4)).mp c8
      refine v_goto (tgt := 1797) C dL_law_517 (by decide) ?_
      refine v_lvp [2, 3, 4, 5, 6] rfl ?_
      exact v_widen (by omega) (by omega) (kk _ _ _ _ li2)
    · exact absurd hk hn
  · obtain ⟨er, g2, lm⟩ := li.no w2 hk
    subst er
    have hk4 : (kShare sz p1) < 4 := by unfold kShare; (repeat' split) <;> decide
    refine v_istore C [(5, .int (nI (kShare sz p1))), (4, .int (nI i)), (0, .ref sb), (1, .ref x), (2, .ref mm), (3, .ref o)] rfl (by decide) dL_law_475 ?_
    refine v_aload_n C 4 rfl dL_law_477 rfl ?_
    refine v_aload_n C 2 rfl dL_law_478 rfl ?_
    refine v_iload C 1 rfl dL_law_479 ?_
    refine v_iconst (v := 1) C dL_law_481 (by decide) ?_
    refine v_iadd C dL_law_482 (v_eqi (nI_adk i 1 (by decide)) ?_)
    refine v_sld C hX (vpin (show i + 1 < L by omega) (by omega)) dL_law_483 (v_eqi (y := p1) e1 ?_)
    refine v_lt (fun B hB => ?_)
    obtain ⟨xi1, ⟨k1, mo1⟩, -⟩ := id lm
    obtain ⟨ns, na, ia, la, mr, ms, -⟩ := mo1.re hB
    refine v_callV (rest := []) C (c_X5_share l hl G mm (adB ad B) ns na ia la h2 sz p1 h2 mr ms hw) K_L_123 mr.1 rfl rfl (Nat.le_of_ble_eq_true rfl) ⟨Nat.le_of_ble_eq_true rfl, Nat.le_of_ble_eq_true rfl⟩ ⟨by show cs + 20 + 0 ≤ 601024; omega, by show sl + 9000 + 0 ≤ 7293034; omega⟩ dL_law_484 (fun r10 h10 w10 => ?_)
    rcases w10 with ⟨hn, -⟩ | ⟨-, mo⟩
    · exact absurd hn hk
    · obtain ⟨li2, -⟩ := lm.step hB hw mo
      refine v_istore C [(6, .int r10), (5, .int (nI (kShare sz p1))), (4, .int (nI i)), (0, .ref sb), (1, .ref x), (2, .ref mm), (3, .ref o)] rfl (by decide) dL_law_487 ?_
      refine v_aload_n C 5 rfl dL_law_489 rfl ?_
      obtain ⟨ns2, na2, ia2, la2, mr2, ms2, ek2⟩ := id mo
      refine v_callV (rest := []) C (c_X5_thrown l hl G mm (adB ad B) ns2 na2 ia2 la2 _ h10 mr2) K_L_105 mr2.1 rfl rfl (Nat.le_of_ble_eq_true rfl) ⟨Nat.le_of_ble_eq_true rfl, Nat.le_of_ble_eq_true rfl⟩ ⟨by show cs + 20 + 0 + 0 ≤ 601024; omega, by show sl + 9000 + 0 + 0 ≤ 7293034; omega⟩ dL_law_490 (fun r11 h11 w11 => ?_)
      obtain ⟨et, rfl⟩ := w11
      rw [ek2] at et; subst et
      refine v_iload C 1 rfl dL_law_493 ?_
      refine v_icmp_eq (tgt := 500) C dL_law_495 (by decide) (fun c12 => ?_) (fun c12 => absurd (by rfl) c12)
      have c12 := (nn_eq (a := (kShare sz p1)) (b := (kShare sz p1)) (by omega) (by omega)).mp c12
      refine v_iload C 1 rfl dL_law_500 ?_
      refine v_if_ne (tgt := 517) C dL_law_502 (by decide) (fun c13 => ?_) (fun c13 => absurd c13 (nI_nz4 hk hk4))
      have c13 := (nk_ne (a := (kShare sz p1)) 0 (by decide) (by omega) (by decide)).mp c13
      refine v_goto (tgt := 1797) C dL_law_517 (by decide) ?_
      refine v_lvp [2, 3, 4, 5, 6] rfl ?_
      exact v_widen (by omega) (by omega) (kk _ _ _ _ li2)
set_option maxHeartbeats 4000000 in
set_option maxRecDepth 100000 in
theorem law_year {p : Program} {l : Launch} {e : Env} {s : State} {m : MethodId} {args : Array Value} {below : List Frame} {meth : Method} {c : Code} {G : zG} (hl : l.stackTraces = false) (C : zOK p l e room_1 s m args below meth c G cL_law 8 RL) (hNc : zNc s) {sb L : Nat} {xs : Nat → Int32} (hX : va_X sb L xs s s.heap ∧ sb < s.heap.size ∧ sb < gN G) (hL : L ≤ 2048) (i : Nat) (hiL : i + 4 ≤ L) (p1 p2 p3 : Int32) (e1 : xs (nI (i + 1)).toNatClampNeg = p1) (e2 : xs (nI (i + 2)).toNatClampNeg = p2) (e3 : xs (nI (i + 3)).toNatClampNeg = p3) {Q : State → Prop} {h : zH} {g : XGh} {x mm o : Nat} {ad : Nat → Nat} {sz : ZS} (li : LI G h g x mm o ad sz) (cs sl : Nat) (hcs : cs + 20 ≤ 601024) (hsl : sl + 9000 ≤ 7293034) (kk : ∀ (h2 : zH) (g2 : XGh) (ad2 : Nat → Nat) (s2 : ZS), LI G h2 g2 x mm o ad2 s2 → V p l e room_1 s m args below meth c G 8 Q h2 (cs + 20) (sl + 9000) 1797 [(4, .int (nI i)), (0, .ref sb), (1, .ref x), (2, .ref mm), (3, .ref o)] []) : V p l e room_1 s m args below meth c G 8 Q h cs sl 520 [(4, .int (nI i)), (0, .ref sb), (1, .ref x), (2, .ref mm), (3, .ref o)] [] := by
  refine v_aload_n C 2 rfl dL_law_520 rfl ?_
  refine v_aload_n C 4 rfl dL_law_521 rfl ?_
  obtain ⟨xi0, hw, -, -, -, ⟨fo, ho⟩, hro⟩ := id li
  refine v_callL (rest := []) C hNc (c_L_year l hl G x o g sz fo h xi0 hw ho hro) CL_L_124 rfl rfl (Nat.le_of_ble_eq_true rfl) ⟨Nat.le_of_ble_eq_true rfl, Nat.le_of_ble_eq_true rfl⟩ ⟨by show cs + 20 ≤ 601024; omega, by show sl + 9000 ≤ 7293034; omega⟩ dL_law_522 (fun r1 h1 w1 => ?_)
  by_cases hk : (kYear sz) = 0
  · obtain ⟨er, g2, lm⟩ := li.ok w1 hk
    subst er
    refine v_istore C [(5, .int 0), (4, .int (nI i)), (0, .ref sb), (1, .ref x), (2, .ref mm), (3, .ref o)] rfl (by decide) dL_law_525 ?_
    refine v_aload_n C 4 rfl dL_law_527 rfl ?_
    refine v_lt (fun B hB => ?_)
    obtain ⟨xi1, ⟨k1, mo1⟩, -⟩ := id lm
    obtain ⟨ns, na, ia, la, mr, ms, -⟩ := mo1.re hB
    refine v_callV (rest := []) C (c_X5_year l hl G mm (adB ad B) ns na ia la h1 sz h1 mr ms hw) K_L_127 mr.1 rfl rfl (Nat.le_of_ble_eq_true rfl) ⟨Nat.le_of_ble_eq_true rfl, Nat.le_of_ble_eq_true rfl⟩ ⟨by show cs + 20 + 0 ≤ 601024; omega, by show sl + 9000 + 0 ≤ 7293034; omega⟩ dL_law_528 (fun r2 h2 w2 => ?_)
    rcases w2 with ⟨-, mo, er2⟩ | ⟨hn, -⟩
    · obtain ⟨li2, f, ho2, hf⟩ := lm.step hB (wf_year hw hk) mo
      refine v_istore C [(6, .int r2), (5, .int 0), (4, .int (nI i)), (0, .ref sb), (1, .ref x), (2, .ref mm), (3, .ref o)] rfl (by decide) dL_law_531 ?_
      refine v_aload_n C 5 rfl dL_law_533 rfl ?_
      obtain ⟨ns2, na2, ia2, la2, mr2, ms2, ek2⟩ := id mo
      refine v_callV (rest := []) C (c_X5_thrown l hl G mm (adB ad B) ns2 na2 ia2 la2 _ h2 mr2) K_L_105 mr2.1 rfl rfl (Nat.le_of_ble_eq_true rfl) ⟨Nat.le_of_ble_eq_true rfl, Nat.le_of_ble_eq_true rfl⟩ ⟨by show cs + 20 + 0 + 0 ≤ 601024; omega, by show sl + 9000 + 0 + 0 ≤ 7293034; omega⟩ dL_law_534 (fun r3 h3 w3 => ?_)
      obtain ⟨et, rfl⟩ := w3
      rw [ek2] at et; subst et
      refine v_iload C 1 rfl dL_law_537 ?_
      refine v_icmp_eq (tgt := 544) C dL_law_539 (by decide) (fun c4 => ?_) (fun c4 => absurd c4 (by decide))
      refine v_iload C 1 rfl dL_law_544 ?_
      refine v_if_ne (tgt := 561) C dL_law_546 (by decide) (fun c5 => absurd c5 (by decide)) (fun c5 => ?_)
      refine v_aload_n C 6 rfl dL_law_549 rfl ?_
      refine v_iconst (v := 0) C dL_law_550 (by decide) ?_
      refine v_lald C ho2 (show vp_in (0 : Int32) 1 from vpin (n := 0) (N := 1) (by decide) (by decide)) dL_law_551 (v_eql (y := (Int32.toInt64 (nI ((top1 sz).2 + 1)))) hf ?_)
      refine v_iload C 0 rfl dL_law_552 ?_
      refine v_i2l (v := (r2 : Int32).toInt64) C dL_law_554 rfl ?_
      refine v_lcmp C dL_law_555 ?_
      refine v_if_eq (tgt := 561) C dL_law_556 (by decide) (fun c6 => ?_) (fun c6 => absurd ((lgc_eq _ _).mpr (congrArg Int32.toInt64 er2).symm) c6)
      have c6 := (lgc_eq (Int32.toInt64 (nI ((top1 sz).2 + 1))) (Int32.toInt64 r2)).mp c6
      refine v_goto (tgt := 1797) C dL_law_561 (by decide) ?_
      refine v_lvp [2, 3, 4, 5, 6] rfl ?_
      exact v_widen (by omega) (by omega) (kk _ _ _ _ li2)
    · exact absurd hk hn
  · obtain ⟨er, g2, lm⟩ := li.no w1 hk
    subst er
    have hk4 : (kYear sz) < 4 := by unfold kYear; (repeat' split) <;> decide
    refine v_istore C [(5, .int (nI (kYear sz))), (4, .int (nI i)), (0, .ref sb), (1, .ref x), (2, .ref mm), (3, .ref o)] rfl (by decide) dL_law_525 ?_
    refine v_aload_n C 4 rfl dL_law_527 rfl ?_
    refine v_lt (fun B hB => ?_)
    obtain ⟨xi1, ⟨k1, mo1⟩, -⟩ := id lm
    obtain ⟨ns, na, ia, la, mr, ms, -⟩ := mo1.re hB
    refine v_callV (rest := []) C (c_X5_year l hl G mm (adB ad B) ns na ia la h1 sz h1 mr ms hw) K_L_127 mr.1 rfl rfl (Nat.le_of_ble_eq_true rfl) ⟨Nat.le_of_ble_eq_true rfl, Nat.le_of_ble_eq_true rfl⟩ ⟨by show cs + 20 + 0 ≤ 601024; omega, by show sl + 9000 + 0 ≤ 7293034; omega⟩ dL_law_528 (fun r7 h7 w7 => ?_)
    rcases w7 with ⟨hn, -⟩ | ⟨-, mo⟩
    · exact absurd hn hk
    · obtain ⟨li2, -⟩ := lm.step hB hw mo
      refine v_istore C [(6, .int r7), (5, .int (nI (kYear sz))), (4, .int (nI i)), (0, .ref sb), (1, .ref x), (2, .ref mm), (3, .ref o)] rfl (by decide) dL_law_531 ?_
      refine v_aload_n C 5 rfl dL_law_533 rfl ?_
      obtain ⟨ns2, na2, ia2, la2, mr2, ms2, ek2⟩ := id mo
      refine v_callV (rest := []) C (c_X5_thrown l hl G mm (adB ad B) ns2 na2 ia2 la2 _ h7 mr2) K_L_105 mr2.1 rfl rfl (Nat.le_of_ble_eq_true rfl) ⟨Nat.le_of_ble_eq_true rfl, Nat.le_of_ble_eq_true rfl⟩ ⟨by show cs + 20 + 0 + 0 ≤ 601024; omega, by show sl + 9000 + 0 + 0 ≤ 7293034; omega⟩ dL_law_534 (fun r8 h8 w8 => ?_)
      obtain ⟨et, rfl⟩ := w8
      rw [ek2] at et; subst et
      refine v_iload C 1 rfl dL_law_537 ?_
      refine v_icmp_eq (tgt := 544) C dL_law_539 (by decide) (fun c9 => ?_) (fun c9 => absurd (by rfl) c9)
      have c9 := (nn_eq (a := (kYear sz)) (b := (kYear sz)) (by omega) (by omega)).mp c9
      refine v_iload C 1 rfl dL_law_544 ?_
      refine v_if_ne (tgt := 561) C dL_law_546 (by decide) (fun c10 => ?_) (fun c10 => absurd c10 (nI_nz4 hk hk4))
      have c10 := (nk_ne (a := (kYear sz)) 0 (by decide) (by omega) (by decide)).mp c10
      refine v_goto (tgt := 1797) C dL_law_561 (by decide) ?_
      refine v_lvp [2, 3, 4, 5, 6] rfl ?_
      exact v_widen (by omega) (by omega) (kk _ _ _ _ li2)
set_option maxHeartbeats 4000000 in
set_option maxRecDepth 100000 in
theorem law_clear {p : Program} {l : Launch} {e : Env} {s : State} {m : MethodId} {args : Array Value} {below : List Frame} {meth : Method} {c : Code} {G : zG} (hl : l.stackTraces = false) (C : zOK p l e room_1 s m args below meth c G cL_law 8 RL) (hNc : zNc s) {sb L : Nat} {xs : Nat → Int32} (hX : va_X sb L xs s s.heap ∧ sb < s.heap.size ∧ sb < gN G) (hL : L ≤ 2048) (i : Nat) (hiL : i + 4 ≤ L) (p1 p2 p3 : Int32) (e1 : xs (nI (i + 1)).toNatClampNeg = p1) (e2 : xs (nI (i + 2)).toNatClampNeg = p2) (e3 : xs (nI (i + 3)).toNatClampNeg = p3) {Q : State → Prop} {h : zH} {g : XGh} {x mm o : Nat} {ad : Nat → Nat} {sz : ZS} (li : LI G h g x mm o ad sz) (cs sl : Nat) (hcs : cs + 20 ≤ 601024) (hsl : sl + 9000 ≤ 7293034) (kk : ∀ (h2 : zH) (g2 : XGh) (ad2 : Nat → Nat) (s2 : ZS), LI G h2 g2 x mm o ad2 s2 → V p l e room_1 s m args below meth c G 8 Q h2 (cs + 20) (sl + 9000) 1797 [(4, .int (nI i)), (0, .ref sb), (1, .ref x), (2, .ref mm), (3, .ref o)] []) : V p l e room_1 s m args below meth c G 8 Q h cs sl 564 [(4, .int (nI i)), (0, .ref sb), (1, .ref x), (2, .ref mm), (3, .ref o)] [] := by
  refine v_aload_n C 2 rfl dL_law_564 rfl ?_
  obtain ⟨xi0, hw, -⟩ := id li
  refine v_callV (rest := []) C (c_X4_clear l hl G x g sz h xi0 hw) K_L_128 xi0.1.1.1 rfl rfl (Nat.le_of_ble_eq_true rfl) ⟨Nat.le_of_ble_eq_true rfl, Nat.le_of_ble_eq_true rfl⟩ ⟨by show cs + 0 ≤ 601024; omega, by show sl + 0 ≤ 7293034; omega⟩ dL_law_565 (fun r1 h1 w1 => ?_)
  obtain ⟨er, g2, xi2, fr2⟩ := w1; subst er
  have lm := li.cl xi2 fr2
  refine v_aload_n C 3 rfl dL_law_568 rfl ?_
  refine v_lt (fun B hB => ?_)
  obtain ⟨xi1, ⟨k1, mo1⟩, -⟩ := id lm
  obtain ⟨ns, na, ia, la, mr, ms, -⟩ := mo1.re hB
  refine v_callV (rest := [.int (nI (oS sz).length)]) C (c_X5_clear l hl G mm (adB ad B) ns na ia la h1 sz h1 mr ms) K_L_131 mr.1 rfl rfl (Nat.le_of_ble_eq_true rfl) ⟨Nat.le_of_ble_eq_true rfl, Nat.le_of_ble_eq_true rfl⟩ ⟨by show cs + 0 + 0 ≤ 601024; omega, by show sl + 0 + 0 ≤ 7293034; omega⟩ dL_law_569 (fun r2 h2 w2 => ?_)
  obtain ⟨er2, mo⟩ := w2; subst er2
  obtain ⟨li2, -⟩ := lm.step hB (wf_clear hw) mo
  refine v_icmp_eq (tgt := 1797) C dL_law_572 (by decide) (fun c3 => ?_) (fun c3 => absurd rfl c3)
  refine v_lvp [0, 1, 2, 3, 4] rfl ?_
  exact v_widen (by omega) (by omega) (kk _ _ _ _ li2)
set_option maxHeartbeats 4000000 in
set_option maxRecDepth 100000 in
theorem law_define {p : Program} {l : Launch} {e : Env} {s : State} {m : MethodId} {args : Array Value} {below : List Frame} {meth : Method} {c : Code} {G : zG} (hl : l.stackTraces = false) (C : zOK p l e room_1 s m args below meth c G cL_law 8 RL) (hNc : zNc s) {sb L : Nat} {xs : Nat → Int32} (hX : va_X sb L xs s s.heap ∧ sb < s.heap.size ∧ sb < gN G) (hL : L ≤ 2048) (i : Nat) (hiL : i + 4 ≤ L) (p1 p2 p3 : Int32) (e1 : xs (nI (i + 1)).toNatClampNeg = p1) (e2 : xs (nI (i + 2)).toNatClampNeg = p2) (e3 : xs (nI (i + 3)).toNatClampNeg = p3) {Q : State → Prop} {h : zH} {g : XGh} {x mm o : Nat} {ad : Nat → Nat} {sz : ZS} (li : LI G h g x mm o ad sz) (cs sl : Nat) (hcs : cs + 20 ≤ 601024) (hsl : sl + 9000 ≤ 7293034) (kk : ∀ (h2 : zH) (g2 : XGh) (ad2 : Nat → Nat) (s2 : ZS), LI G h2 g2 x mm o ad2 s2 → V p l e room_1 s m args below meth c G 8 Q h2 (cs + 20) (sl + 9000) 1797 [(4, .int (nI i)), (0, .ref sb), (1, .ref x), (2, .ref mm), (3, .ref o)] []) : V p l e room_1 s m args below meth c G 8 Q h cs sl 577 [(4, .int (nI i)), (0, .ref sb), (1, .ref x), (2, .ref mm), (3, .ref o)] [] := by
  refine v_aload_n C 2 rfl dL_law_577 rfl ?_
  refine v_aload_n C 4 rfl dL_law_578 rfl ?_
  obtain ⟨xi0, hw, -, -, -, ⟨fo, ho⟩, hro⟩ := id li
  refine v_callL (rest := []) C hNc (c_L_define l hl G x o g sz fo h xi0 hw ho hro) CL_L_132 rfl rfl (Nat.le_of_ble_eq_true rfl) ⟨Nat.le_of_ble_eq_true rfl, Nat.le_of_ble_eq_true rfl⟩ ⟨by show cs + 20 ≤ 601024; omega, by show sl + 9000 ≤ 7293034; omega⟩ dL_law_579 (fun r1 h1 w1 => ?_)
  by_cases hk : (kDefine sz) = 0
  · obtain ⟨er, g2, lm⟩ := li.ok w1 hk
    subst er
    refine v_istore C [(5, .int 0), (4, .int (nI i)), (0, .ref sb), (1, .ref x), (2, .ref mm), (3, .ref o)] rfl (by decide) dL_law_582 ?_
    refine v_aload_n C 4 rfl dL_law_584 rfl ?_
    refine v_lt (fun B hB => ?_)
    obtain ⟨xi1, ⟨k1, mo1⟩, -⟩ := id lm
    obtain ⟨ns, na, ia, la, mr, ms, -⟩ := mo1.re hB
    refine v_callV (rest := []) C (c_X5_define l hl G mm (adB ad B) ns na ia la h1 sz h1 mr ms hw) K_L_134 mr.1 rfl rfl (Nat.le_of_ble_eq_true rfl) ⟨Nat.le_of_ble_eq_true rfl, Nat.le_of_ble_eq_true rfl⟩ ⟨by show cs + 20 + 0 ≤ 601024; omega, by show sl + 9000 + 0 ≤ 7293034; omega⟩ dL_law_585 (fun r2 h2 w2 => ?_)
    rcases w2 with ⟨-, mo, er2⟩ | ⟨hn, -⟩
    · obtain ⟨li2, f, ho2, hf⟩ := lm.step hB (wf_define hw hk) mo
      refine v_istore C [(6, .int r2), (5, .int 0), (4, .int (nI i)), (0, .ref sb), (1, .ref x), (2, .ref mm), (3, .ref o)] rfl (by decide) dL_law_588 ?_
      refine v_aload_n C 5 rfl dL_law_590 rfl ?_
      obtain ⟨ns2, na2, ia2, la2, mr2, ms2, ek2⟩ := id mo
      refine v_callV (rest := []) C (c_X5_thrown l hl G mm (adB ad B) ns2 na2 ia2 la2 _ h2 mr2) K_L_105 mr2.1 rfl rfl (Nat.le_of_ble_eq_true rfl) ⟨Nat.le_of_ble_eq_true rfl, Nat.le_of_ble_eq_true rfl⟩ ⟨by show cs + 20 + 0 + 0 ≤ 601024; omega, by show sl + 9000 + 0 + 0 ≤ 7293034; omega⟩ dL_law_591 (fun r3 h3 w3 => ?_)
      obtain ⟨et, rfl⟩ := w3
      rw [ek2] at et; subst et
      refine v_iload C 1 rfl dL_law_594 ?_
      refine v_icmp_eq (tgt := 601) C dL_law_596 (by decide) (fun c4 => ?_) (fun c4 => absurd c4 (by decide))
      refine v_iload C 1 rfl dL_law_601 ?_
      refine v_if_ne (tgt := 618) C dL_law_603 (by decide) (fun c5 => absurd c5 (by decide)) (fun c5 => ?_)
      refine v_aload_n C 6 rfl dL_law_606 rfl ?_
      refine v_iconst (v := 0) C dL_law_607 (by decide) ?_
      refine v_lald C ho2 (show vp_in (0 : Int32) 1 from vpin (n := 0) (N := 1) (by decide) (by decide)) dL_law_608 (v_eql (y := (Int32.toInt64 (nI (oN sz)))) hf ?_)
      refine v_iload C 0 rfl dL_law_609 ?_
      refine v_i2l (v := (r2 : Int32).toInt64) C dL_law_611 rfl ?_
      refine v_lcmp C dL_law_612 ?_
      refine v_if_eq (tgt := 618) C dL_law_613 (by decide) (fun c6 => ?_) (fun c6 => absurd ((lgc_eq _ _).mpr (congrArg Int32.toInt64 er2).symm) c6)
      have c6 := (lgc_eq (Int32.toInt64 (nI (oN sz))) (Int32.toInt64 r2)).mp c6
      refine v_goto (tgt := 1797) C dL_law_618 (by decide) ?_
      refine v_lvp [2, 3, 4, 5, 6] rfl ?_
      exact v_widen (by omega) (by omega) (kk _ _ _ _ li2)
    · exact absurd hk hn
  · obtain ⟨er, g2, lm⟩ := li.no w1 hk
    subst er
    have hk4 : (kDefine sz) < 4 := by unfold kDefine; (repeat' split) <;> decide
    refine v_istore C [(5, .int (nI (kDefine sz))), (4, .int (nI i)), (0, .ref sb), (1, .ref x), (2, .ref mm), (3, .ref o)] rfl (by decide) dL_law_582 ?_
    refine v_aload_n C 4 rfl dL_law_584 rfl ?_
    refine v_lt (fun B hB => ?_)
    obtain ⟨xi1, ⟨k1, mo1⟩, -⟩ := id lm
    obtain ⟨ns, na, ia, la, mr, ms, -⟩ := mo1.re hB
    refine v_callV (rest := []) C (c_X5_define l hl G mm (adB ad B) ns na ia la h1 sz h1 mr ms hw) K_L_134 mr.1 rfl rfl (Nat.le_of_ble_eq_true rfl) ⟨Nat.le_of_ble_eq_true rfl, Nat.le_of_ble_eq_true rfl⟩ ⟨by show cs + 20 + 0 ≤ 601024; omega, by show sl + 9000 + 0 ≤ 7293034; omega⟩ dL_law_585 (fun r7 h7 w7 => ?_)
    rcases w7 with ⟨hn, -⟩ | ⟨-, mo⟩
    · exact absurd hn hk
    · obtain ⟨li2, -⟩ := lm.step hB hw mo
      refine v_istore C [(6, .int r7), (5, .int (nI (kDefine sz))), (4, .int (nI i)), (0, .ref sb), (1, .ref x), (2, .ref mm), (3, .ref o)] rfl (by decide) dL_law_588 ?_
      refine v_aload_n C 5 rfl dL_law_590 rfl ?_
      obtain ⟨ns2, na2, ia2, la2, mr2, ms2, ek2⟩ := id mo
      refine v_callV (rest := []) C (c_X5_thrown l hl G mm (adB ad B) ns2 na2 ia2 la2 _ h7 mr2) K_L_105 mr2.1 rfl rfl (Nat.le_of_ble_eq_true rfl) ⟨Nat.le_of_ble_eq_true rfl, Nat.le_of_ble_eq_true rfl⟩ ⟨by show cs + 20 + 0 + 0 ≤ 601024; omega, by show sl + 9000 + 0 + 0 ≤ 7293034; omega⟩ dL_law_591 (fun r8 h8 w8 => ?_)
      obtain ⟨et, rfl⟩ := w8
      rw [ek2] at et; subst et
      refine v_iload C 1 rfl dL_law_594 ?_
      refine v_icmp_eq (tgt := 601) C dL_law_596 (by decide) (fun c9 => ?_) (fun c9 => absurd (by rfl) c9)
      have c9 := (nn_eq (a := (kDefine sz)) (b := (kDefine sz)) (by omega) (by omega)).mp c9
      refine v_iload C 1 rfl dL_law_601 ?_
      refine v_if_ne (tgt := 618) C dL_law_603 (by decide) (fun c10 => ?_) (fun c10 => absurd c10 (nI_nz4 hk hk4))
      have c10 := (nk_ne (a := (kDefine sz)) 0 (by decide) (by omega) (by decide)).mp c10
      refine v_goto (tgt := 1797) C dL_law_618 (by decide) ?_
      refine v_lvp [2, 3, 4, 5, 6] rfl ?_
      exact v_widen (by omega) (by omega) (kk _ _ _ _ li2)
set_option maxHeartbeats 4000000 in
set_option maxRecDepth 100000 in
theorem law_amend {p : Program} {l : Launch} {e : Env} {s : State} {m : MethodId} {args : Array Value} {below : List Frame} {meth : Method} {c : Code} {G : zG} (hl : l.stackTraces = false) (C : zOK p l e room_1 s m args below meth c G cL_law 8 RL) (hNc : zNc s) {sb L : Nat} {xs : Nat → Int32} (hX : va_X sb L xs s s.heap ∧ sb < s.heap.size ∧ sb < gN G) (hL : L ≤ 2048) (i : Nat) (hiL : i + 4 ≤ L) (p1 p2 p3 : Int32) (e1 : xs (nI (i + 1)).toNatClampNeg = p1) (e2 : xs (nI (i + 2)).toNatClampNeg = p2) (e3 : xs (nI (i + 3)).toNatClampNeg = p3) {Q : State → Prop} {h : zH} {g : XGh} {x mm o : Nat} {ad : Nat → Nat} {sz : ZS} (li : LI G h g x mm o ad sz) (cs sl : Nat) (hcs : cs + 20 ≤ 601024) (hsl : sl + 9000 ≤ 7293034) (kk : ∀ (h2 : zH) (g2 : XGh) (ad2 : Nat → Nat) (s2 : ZS), LI G h2 g2 x mm o ad2 s2 → V p l e room_1 s m args below meth c G 8 Q h2 (cs + 20) (sl + 9000) 1797 [(4, .int (nI i)), (0, .ref sb), (1, .ref x), (2, .ref mm), (3, .ref o)] []) : V p l e room_1 s m args below meth c G 8 Q h cs sl 621 [(4, .int (nI i)), (0, .ref sb), (1, .ref x), (2, .ref mm), (3, .ref o)] [] := by
  refine v_aload_n C 2 rfl dL_law_621 rfl ?_
  refine v_aload_n C 1 rfl dL_law_622 rfl ?_
  refine v_iload C 0 rfl dL_law_623 ?_
  refine v_iconst (v := 1) C dL_law_625 (by decide) ?_
  refine v_iadd C dL_law_626 (v_eqi (nI_adk i 1 (by decide)) ?_)
  refine v_sld C hX (vpin (show i + 1 < L by omega) (by omega)) dL_law_627 (v_eqi (y := p1) e1 ?_)
  refine v_aload_n C 1 rfl dL_law_628 rfl ?_
  refine v_iload C 0 rfl dL_law_629 ?_
  refine v_iconst (v := 2) C dL_law_631 (by decide) ?_
  refine v_iadd C dL_law_632 (v_eqi (nI_adk i 2 (by decide)) ?_)
  refine v_sld C hX (vpin (show i + 2 < L by omega) (by omega)) dL_law_633 (v_eqi (y := p2) e2 ?_)
  refine v_aload_n C 4 rfl dL_law_634 rfl ?_
  obtain ⟨xi0, hw, -, -, -, ⟨fo, ho⟩, hro⟩ := id li
  refine v_callL (rest := []) C hNc (c_L_amend l hl G x o g sz p1 p2 fo h xi0 hw ho hro) CL_L_135 rfl rfl (Nat.le_of_ble_eq_true rfl) ⟨Nat.le_of_ble_eq_true rfl, Nat.le_of_ble_eq_true rfl⟩ ⟨by show cs + 20 ≤ 601024; omega, by show sl + 9000 ≤ 7293034; omega⟩ dL_law_635 (fun r3 h3 w3 => ?_)
  by_cases hk : (kAmend sz p1 p2) = 0
  · obtain ⟨er, g2, lm⟩ := li.ok w3 hk
    subst er
    refine v_istore C [(5, .int 0), (4, .int (nI i)), (0, .ref sb), (1, .ref x), (2, .ref mm), (3, .ref o)] rfl (by decide) dL_law_638 ?_
    refine v_aload_n C 4 rfl dL_law_640 rfl ?_
    refine v_aload_n C 2 rfl dL_law_641 rfl ?_
    refine v_iload C 1 rfl dL_law_642 ?_
    refine v_iconst (v := 1) C dL_law_644 (by decide) ?_
    refine v_iadd C dL_law_645 (v_eqi (nI_adk i 1 (by decide)) ?_)
    refine v_sld C hX (vpin (show i + 1 < L by omega) (by omega)) dL_law_646 (v_eqi (y := p1) e1 ?_)
    refine v_aload_n C 2 rfl dL_law_647 rfl ?_
    refine v_iload C 1 rfl dL_law_648 ?_
    refine v_iconst (v := 2) C dL_law_650 (by decide) ?_
    refine v_iadd C dL_law_651 (v_eqi (nI_adk i 2 (by decide)) ?_)
    refine v_sld C hX (vpin (show i + 2 < L by omega) (by omega)) dL_law_652 (v_eqi (y := p2) e2 ?_)
    refine v_lt (fun B hB => ?_)
    obtain ⟨xi1, ⟨k1, mo1⟩, -⟩ := id lm
    obtain ⟨ns, na, ia, la, mr, ms, -⟩ := mo1.re hB
    refine v_callV (rest := []) C (c_X5_amend l hl G mm (adB ad B) ns na ia la h3 sz p1 p2 h3 mr ms hw) K_L_138 mr.1 rfl rfl (Nat.le_of_ble_eq_true rfl) ⟨Nat.le_of_ble_eq_true rfl, Nat.le_of_ble_eq_true rfl⟩ ⟨by show cs + 20 + 0 ≤ 601024; omega, by show sl + 9000 + 0 ≤ 7293034; omega⟩ dL_law_653 (fun r6 h6 w6 => ?_)
    rcases w6 with ⟨-, mo, er2⟩ | ⟨hn, -⟩
    · obtain ⟨li2, f, ho2, hf⟩ := lm.step hB (wf_amend hw hk) mo
      refine v_istore C [(6, .int r6), (5, .int 0), (4, .int (nI i)), (0, .ref sb), (1, .ref x), (2, .ref mm), (3, .ref o)] rfl (by decide) dL_law_656 ?_
      refine v_aload_n C 5 rfl dL_law_658 rfl ?_
      obtain ⟨ns2, na2, ia2, la2, mr2, ms2, ek2⟩ := id mo
      refine v_callV (rest := []) C (c_X5_thrown l hl G mm (adB ad B) ns2 na2 ia2 la2 _ h6 mr2) K_L_105 mr2.1 rfl rfl (Nat.le_of_ble_eq_true rfl) ⟨Nat.le_of_ble_eq_true rfl, Nat.le_of_ble_eq_true rfl⟩ ⟨by show cs + 20 + 0 + 0 ≤ 601024; omega, by show sl + 9000 + 0 + 0 ≤ 7293034; omega⟩ dL_law_659 (fun r7 h7 w7 => ?_)
      obtain ⟨et, rfl⟩ := w7
      rw [ek2] at et; subst et
      refine v_iload C 1 rfl dL_law_662 ?_
      refine v_icmp_eq (tgt := 669) C dL_law_664 (by decide) (fun c8 => ?_) (fun c8 => absurd c8 (by decide))
      refine v_iload C 1 rfl dL_law_669 ?_
      refine v_if_ne (tgt := 686) C dL_law_671 (by decide) (fun c9 => absurd c9 (by decide)) (fun c9 => ?_)
      refine v_aload_n C 6 rfl dL_law_674 rfl ?_
      refine v_iconst (v := 0) C dL_law_675 (by decide) ?_
      refine v_lald C ho2 (show vp_in (0 : Int32) 1 from vpin (n := 0) (N := 1) (by decide) (by decide)) dL_law_676 (v_eql (y := (Int32.toInt64 (nI (cnt (fun z => (oD (nAmend sz p1 p2) (cl p1) z).isSome) 20)))) hf ?_)
      refine v_iload C 0 rfl dL_law_677 ?_
      refine v_i2l (v := (r6 : Int32).toInt64) C dL_law_679 rfl ?_
      refine v_lcmp C dL_law_680 ?_
      refine v_if_eq (tgt := 686) C dL_law_681 (by decide) (fun c10 => ?_) (fun c10 => absurd ((lgc_eq _ _).mpr (congrArg Int32.toInt64 er2).symm) c10)
      have c10 := (lgc_eq (Int32.toInt64 (nI (cnt (fun z => (oD (nAmend sz p1 p2) (cl p1) z).isSome) 20))) (Int32.toInt64 r6)).mp c10
      refine v_goto (tgt := 1797) C dL_law_686 (by decide) ?_
      refine v_lvp [2, 3, 4, 5, 6] rfl ?_
      exact v_widen (by omega) (by omega) (kk _ _ _ _ li2)
    · exact absurd hk hn
  · obtain ⟨er, g2, lm⟩ := li.no w3 hk
    subst er
    have hk4 : (kAmend sz p1 p2) < 4 := by unfold kAmend; (repeat' split) <;> decide
    refine v_istore C [(5, .int (nI (kAmend sz p1 p2))), (4, .int (nI i)), (0, .ref sb), (1, .ref x), (2, .ref mm), (3, .ref o)] rfl (by decide) dL_law_638 ?_
    refine v_aload_n C 4 rfl dL_law_640 rfl ?_
    refine v_aload_n C 2 rfl dL_law_641 rfl ?_
    refine v_iload C 1 rfl dL_law_642 ?_
    refine v_iconst (v := 1) C dL_law_644 (by decide) ?_
    refine v_iadd C dL_law_645 (v_eqi (nI_adk i 1 (by decide)) ?_)
    refine v_sld C hX (vpin (show i + 1 < L by omega) (by omega)) dL_law_646 (v_eqi (y := p1) e1 ?_)
    refine v_aload_n C 2 rfl dL_law_647 rfl ?_
    refine v_iload C 1 rfl dL_law_648 ?_
    refine v_iconst (v := 2) C dL_law_650 (by decide) ?_
    refine v_iadd C dL_law_651 (v_eqi (nI_adk i 2 (by decide)) ?_)
    refine v_sld C hX (vpin (show i + 2 < L by omega) (by omega)) dL_law_652 (v_eqi (y := p2) e2 ?_)
    refine v_lt (fun B hB => ?_)
    obtain ⟨xi1, ⟨k1, mo1⟩, -⟩ := id lm
    obtain ⟨ns, na, ia, la, mr, ms, -⟩ := mo1.re hB
    refine v_callV (rest := []) C (c_X5_amend l hl G mm (adB ad B) ns na ia la h3 sz p1 p2 h3 mr ms hw) K_L_138 mr.1 rfl rfl (Nat.le_of_ble_eq_true rfl) ⟨Nat.le_of_ble_eq_true rfl, Nat.le_of_ble_eq_true rfl⟩ ⟨by show cs + 20 + 0 ≤ 601024; omega, by show sl + 9000 + 0 ≤ 7293034; omega⟩ dL_law_653 (fun r13 h13 w13 => ?_)
    rcases w13 with ⟨hn, -⟩ | ⟨-, mo⟩
    · exact absurd hn hk
    · obtain ⟨li2, -⟩ := lm.step hB hw mo
      refine v_istore C [(6, .int r13), (5, .int (nI (kAmend sz p1 p2))), (4, .int (nI i)), (0, .ref sb), (1, .ref x), (2, .ref mm), (3, .ref o)] rfl (by decide) dL_law_656 ?_
      refine v_aload_n C 5 rfl dL_law_658 rfl ?_
      obtain ⟨ns2, na2, ia2, la2, mr2, ms2, ek2⟩ := id mo
      refine v_callV (rest := []) C (c_X5_thrown l hl G mm (adB ad B) ns2 na2 ia2 la2 _ h13 mr2) K_L_105 mr2.1 rfl rfl (Nat.le_of_ble_eq_true rfl) ⟨Nat.le_of_ble_eq_true rfl, Nat.le_of_ble_eq_true rfl⟩ ⟨by show cs + 20 + 0 + 0 ≤ 601024; omega, by show sl + 9000 + 0 + 0 ≤ 7293034; omega⟩ dL_law_659 (fun r14 h14 w14 => ?_)
      obtain ⟨et, rfl⟩ := w14
      rw [ek2] at et; subst et
      refine v_iload C 1 rfl dL_law_662 ?_
      refine v_icmp_eq (tgt := 669) C dL_law_664 (by decide) (fun c15 => ?_) (fun c15 => absurd (by rfl) c15)
      have c15 := (nn_eq (a := (kAmend sz p1 p2)) (b := (kAmend sz p1 p2)) (by omega) (by omega)).mp c15
      refine v_iload C 1 rfl dL_law_669 ?_
      refine v_if_ne (tgt := 686) C dL_law_671 (by decide) (fun c16 => ?_) (fun c16 => absurd c16 (nI_nz4 hk hk4))
      have c16 := (nk_ne (a := (kAmend sz p1 p2)) 0 (by decide) (by omega) (by decide)).mp c16
      refine v_goto (tgt := 1797) C dL_law_686 (by decide) ?_
      refine v_lvp [2, 3, 4, 5, 6] rfl ?_
      exact v_widen (by omega) (by omega) (kk _ _ _ _ li2)
set_option maxHeartbeats 4000000 in
set_option maxRecDepth 100000 in
theorem law_terms {p : Program} {l : Launch} {e : Env} {s : State} {m : MethodId} {args : Array Value} {below : List Frame} {meth : Method} {c : Code} {G : zG} (hl : l.stackTraces = false) (C : zOK p l e room_1 s m args below meth c G cL_law 8 RL) (hNc : zNc s) {sb L : Nat} {xs : Nat → Int32} (hX : va_X sb L xs s s.heap ∧ sb < s.heap.size ∧ sb < gN G) (hL : L ≤ 2048) (i : Nat) (hiL : i + 4 ≤ L) (p1 p2 p3 : Int32) (e1 : xs (nI (i + 1)).toNatClampNeg = p1) (e2 : xs (nI (i + 2)).toNatClampNeg = p2) (e3 : xs (nI (i + 3)).toNatClampNeg = p3) {Q : State → Prop} {h : zH} {g : XGh} {x mm o : Nat} {ad : Nat → Nat} {sz : ZS} (li : LI G h g x mm o ad sz) (cs sl : Nat) (hcs : cs + 20 ≤ 601024) (hsl : sl + 9000 ≤ 7293034) (kk : ∀ (h2 : zH) (g2 : XGh) (ad2 : Nat → Nat) (s2 : ZS), LI G h2 g2 x mm o ad2 s2 → V p l e room_1 s m args below meth c G 8 Q h2 (cs + 20) (sl + 9000) 1797 [(4, .int (nI i)), (0, .ref sb), (1, .ref x), (2, .ref mm), (3, .ref o)] []) : V p l e room_1 s m args below meth c G 8 Q h cs sl 689 [(4, .int (nI i)), (0, .ref sb), (1, .ref x), (2, .ref mm), (3, .ref o)] [] := by
  refine v_aload_n C 2 rfl dL_law_689 rfl ?_
  obtain ⟨xi0, hw, -⟩ := id li
  refine v_callV (rest := []) C (c_X4_terms l hl G x g sz h xi0) K_L_139 xi0.1.1.1 rfl rfl (Nat.le_of_ble_eq_true rfl) ⟨Nat.le_of_ble_eq_true rfl, Nat.le_of_ble_eq_true rfl⟩ ⟨by show cs + 0 ≤ 601024; omega, by show sl + 0 ≤ 7293034; omega⟩ dL_law_690 (fun r1 h1 w1 => ?_)
  obtain ⟨er, rfl⟩ := w1; subst er
  have lm := li.lm
  refine v_aload_n C 3 rfl dL_law_693 rfl ?_
  refine v_lt (fun B hB => ?_)
  obtain ⟨xi1, ⟨k1, mo1⟩, -⟩ := id lm
  obtain ⟨ns, na, ia, la, mr, ms, -⟩ := mo1.re hB
  refine v_callV (rest := [.int (nI (oN sz))]) C (c_X5_terms l hl G mm (adB ad B) ns na ia la h sz h mr ms) K_L_142 mr.1 rfl rfl (Nat.le_of_ble_eq_true rfl) ⟨Nat.le_of_ble_eq_true rfl, Nat.le_of_ble_eq_true rfl⟩ ⟨by show cs + 0 + 0 ≤ 601024; omega, by show sl + 0 + 0 ≤ 7293034; omega⟩ dL_law_694 (fun r2 h2 w2 => ?_)
  obtain ⟨er2, mo⟩ := w2; subst er2
  obtain ⟨li2, -⟩ := lm.step hB hw mo
  refine v_icmp_eq (tgt := 1797) C dL_law_697 (by decide) (fun c3 => ?_) (fun c3 => absurd rfl c3)
  refine v_lvp [0, 1, 2, 3, 4] rfl ?_
  exact v_widen (by omega) (by omega) (kk _ _ _ _ li2)
set_option maxHeartbeats 4000000 in
set_option maxRecDepth 100000 in
theorem law_level {p : Program} {l : Launch} {e : Env} {s : State} {m : MethodId} {args : Array Value} {below : List Frame} {meth : Method} {c : Code} {G : zG} (hl : l.stackTraces = false) (C : zOK p l e room_1 s m args below meth c G cL_law 8 RL) (hNc : zNc s) {sb L : Nat} {xs : Nat → Int32} (hX : va_X sb L xs s s.heap ∧ sb < s.heap.size ∧ sb < gN G) (hL : L ≤ 2048) (i : Nat) (hiL : i + 4 ≤ L) (p1 p2 p3 : Int32) (e1 : xs (nI (i + 1)).toNatClampNeg = p1) (e2 : xs (nI (i + 2)).toNatClampNeg = p2) (e3 : xs (nI (i + 3)).toNatClampNeg = p3) {Q : State → Prop} {h : zH} {g : XGh} {x mm o : Nat} {ad : Nat → Nat} {sz : ZS} (li : LI G h g x mm o ad sz) (cs sl : Nat) (hcs : cs + 20 ≤ 601024) (hsl : sl + 9000 ≤ 7293034) (kk : ∀ (h2 : zH) (g2 : XGh) (ad2 : Nat → Nat) (s2 : ZS), LI G h2 g2 x mm o ad2 s2 → V p l e room_1 s m args below meth c G 8 Q h2 (cs + 20) (sl + 9000) 1797 [(4, .int (nI i)), (0, .ref sb), (1, .ref x), (2, .ref mm), (3, .ref o)] []) : V p l e room_1 s m args below meth c G 8 Q h cs sl 702 [(4, .int (nI i)), (0, .ref sb), (1, .ref x), (2, .ref mm), (3, .ref o)] [] := by
  refine v_aload_n C 2 rfl dL_law_702 rfl ?_
  refine v_aload_n C 1 rfl dL_law_703 rfl ?_
  refine v_iload C 0 rfl dL_law_704 ?_
  refine v_iconst (v := 1) C dL_law_706 (by decide) ?_
  refine v_iadd C dL_law_707 (v_eqi (nI_adk i 1 (by decide)) ?_)
  refine v_sld C hX (vpin (show i + 1 < L by omega) (by omega)) dL_law_708 (v_eqi (y := p1) e1 ?_)
  refine v_aload_n C 4 rfl dL_law_709 rfl ?_
  obtain ⟨xi0, hw, -, -, -, ⟨fo, ho⟩, hro⟩ := id li
  refine v_callL (rest := []) C hNc (c_L_level l hl G x o g sz p1 fo h xi0 hw ho hro) CL_L_143 rfl rfl (Nat.le_of_ble_eq_true rfl) ⟨Nat.le_of_ble_eq_true rfl, Nat.le_of_ble_eq_true rfl⟩ ⟨by show cs + 10 ≤ 601024; omega, by show sl + 8000 ≤ 7293034; omega⟩ dL_law_710 (fun r2 h2 w2 => ?_)
  by_cases hk : (kIsT sz p1) = 0
  · obtain ⟨er, g2, lm⟩ := li.ok w2 hk
    subst er
    refine v_istore C [(5, .int 0), (4, .int (nI i)), (0, .ref sb), (1, .ref x), (2, .ref mm), (3, .ref o)] rfl (by decide) dL_law_713 ?_
    refine v_aload_n C 4 rfl dL_law_715 rfl ?_
    refine v_aload_n C 2 rfl dL_law_716 rfl ?_
    refine v_iload C 1 rfl dL_law_717 ?_
    refine v_iconst (v := 1) C dL_law_719 (by decide) ?_
    refine v_iadd C dL_law_720 (v_eqi (nI_adk i 1 (by decide)) ?_)
    refine v_sld C hX (vpin (show i + 1 < L by omega) (by omega)) dL_law_721 (v_eqi (y := p1) e1 ?_)
    refine v_lt (fun B hB => ?_)
    obtain ⟨xi1, ⟨k1, mo1⟩, -⟩ := id lm
    obtain ⟨ns, na, ia, la, mr, ms, -⟩ := mo1.re hB
    refine v_callV (rest := []) C (c_X5_level l hl G mm (adB ad B) ns na ia la h2 sz p1 h2 mr ms hw) K_L_145 mr.1 rfl rfl (Nat.le_of_ble_eq_true rfl) ⟨Nat.le_of_ble_eq_true rfl, Nat.le_of_ble_eq_true rfl⟩ ⟨by show cs + 10 + 0 ≤ 601024; omega, by show sl + 8000 + 0 ≤ 7293034; omega⟩ dL_law_722 (fun r4 h4 w4 => ?_)
    rcases w4 with ⟨-, mo, er2⟩ | ⟨hn, -⟩
    · obtain ⟨li2, f, ho2, hf⟩ := lm.step hB hw mo
      refine v_istore C [(6, .int r4), (5, .int 0), (4, .int (nI i)), (0, .ref sb), (1, .ref x), (2, .ref mm), (3, .ref o)] rfl (by decide) dL_law_725 ?_
      refine v_aload_n C 5 rfl dL_law_727 rfl ?_
      obtain ⟨ns2, na2, ia2, la2, mr2, ms2, ek2⟩ := id mo
      refine v_callV (rest := []) C (c_X5_thrown l hl G mm (adB ad B) ns2 na2 ia2 la2 _ h4 mr2) K_L_105 mr2.1 rfl rfl (Nat.le_of_ble_eq_true rfl) ⟨Nat.le_of_ble_eq_true rfl, Nat.le_of_ble_eq_true rfl⟩ ⟨by show cs + 10 + 0 + 0 ≤ 601024; omega, by show sl + 8000 + 0 + 0 ≤ 7293034; omega⟩ dL_law_728 (fun r5 h5 w5 => ?_)
      obtain ⟨et, rfl⟩ := w5
      rw [ek2] at et; subst et
      refine v_iload C 1 rfl dL_law_731 ?_
      refine v_icmp_eq (tgt := 738) C dL_law_733 (by decide) (fun c6 => ?_) (fun c6 => absurd c6 (by decide))
      refine v_iload C 1 rfl dL_law_738 ?_
      refine v_if_ne (tgt := 755) C dL_law_740 (by decide) (fun c7 => absurd c7 (by decide)) (fun c7 => ?_)
      refine v_aload_n C 6 rfl dL_law_743 rfl ?_
      refine v_iconst (v := 0) C dL_law_744 (by decide) ?_
      refine v_lald C ho2 (show vp_in (0 : Int32) 1 from vpin (n := 0) (N := 1) (by decide) (by decide)) dL_law_745 (v_eql (y := (Int32.toInt64 (nI (oL sz (cl p1))))) hf ?_)
      refine v_iload C 0 rfl dL_law_746 ?_
      refine v_i2l (v := (r4 : Int32).toInt64) C dL_law_748 rfl ?_
      refine v_lcmp C dL_law_749 ?_
      refine v_if_eq (tgt := 755) C dL_law_750 (by decide) (fun c8 => ?_) (fun c8 => absurd ((lgc_eq _ _).mpr (congrArg Int32.toInt64 er2).symm) c8)
      have c8 := (lgc_eq (Int32.toInt64 (nI (oL sz (cl p1)))) (Int32.toInt64 r4)).mp c8
      refine v_goto (tgt := 1797) C dL_law_755 (by decide) ?_
      refine v_lvp [2, 3, 4, 5, 6] rfl ?_
      exact v_widen (by omega) (by omega) (kk _ _ _ _ li2)
    · exact absurd hk hn
  · obtain ⟨er, g2, lm⟩ := li.no w2 hk
    subst er
    have hk4 : (kIsT sz p1) < 4 := by unfold kIsT; (repeat' split) <;> decide
    refine v_istore C [(5, .int (nI (kIsT sz p1))), (4, .int (nI i)), (0, .ref sb), (1, .ref x), (2, .ref mm), (3, .ref o)] rfl (by decide) dL_law_713 ?_
    refine v_aload_n C 4 rfl dL_law_715 rfl ?_
    refine v_aload_n C 2 rfl dL_law_716 rfl ?_
    refine v_iload C 1 rfl dL_law_717 ?_
    refine v_iconst (v := 1) C dL_law_719 (by decide) ?_
    refine v_iadd C dL_law_720 (v_eqi (nI_adk i 1 (by decide)) ?_)
    refine v_sld C hX (vpin (show i + 1 < L by omega) (by omega)) dL_law_721 (v_eqi (y := p1) e1 ?_)
    refine v_lt (fun B hB => ?_)
    obtain ⟨xi1, ⟨k1, mo1⟩, -⟩ := id lm
    obtain ⟨ns, na, ia, la, mr, ms, -⟩ := mo1.re hB
    refine v_callV (rest := []) C (c_X5_level l hl G mm (adB ad B) ns na ia la h2 sz p1 h2 mr ms hw) K_L_145 mr.1 rfl rfl (Nat.le_of_ble_eq_true rfl) ⟨Nat.le_of_ble_eq_true rfl, Nat.le_of_ble_eq_true rfl⟩ ⟨by show cs + 10 + 0 ≤ 601024; omega, by show sl + 8000 + 0 ≤ 7293034; omega⟩ dL_law_722 (fun r10 h10 w10 => ?_)
    rcases w10 with ⟨hn, -⟩ | ⟨-, mo⟩
    · exact absurd hn hk
    · obtain ⟨li2, -⟩ := lm.step hB hw mo
      refine v_istore C [(6, .int r10), (5, .int (nI (kIsT sz p1))), (4, .int (nI i)), (0, .ref sb), (1, .ref x), (2, .ref mm), (3, .ref o)] rfl (by decide) dL_law_725 ?_
      refine v_aload_n C 5 rfl dL_law_727 rfl ?_
      obtain ⟨ns2, na2, ia2, la2, mr2, ms2, ek2⟩ := id mo
      refine v_callV (rest := []) C (c_X5_thrown l hl G mm (adB ad B) ns2 na2 ia2 la2 _ h10 mr2) K_L_105 mr2.1 rfl rfl (Nat.le_of_ble_eq_true rfl) ⟨Nat.le_of_ble_eq_true rfl, Nat.le_of_ble_eq_true rfl⟩ ⟨by show cs + 10 + 0 + 0 ≤ 601024; omega, by show sl + 8000 + 0 + 0 ≤ 7293034; omega⟩ dL_law_728 (fun r11 h11 w11 => ?_)
      obtain ⟨et, rfl⟩ := w11
      rw [ek2] at et; subst et
      refine v_iload C 1 rfl dL_law_731 ?_
      refine v_icmp_eq (tgt := 738) C dL_law_733 (by decide) (fun c12 => ?_) (fun c12 => absurd (by rfl) c12)
      have c12 := (nn_eq (a := (kIsT sz p1)) (b := (kIsT sz p1)) (by omega) (by omega)).mp c12
      refine v_iload C 1 rfl dL_law_738 ?_
      refine v_if_ne (tgt := 755) C dL_law_740 (by decide) (fun c13 => ?_) (fun c13 => absurd c13 (nI_nz4 hk hk4))
      have c13 := (nk_ne (a := (kIsT sz p1)) 0 (by decide) (by omega) (by decide)).mp c13
      refine v_goto (tgt := 1797) C dL_law_755 (by decide) ?_
      refine v_lvp [2, 3, 4, 5, 6] rfl ?_
      exact v_widen (by omega) (by omega) (kk _ _ _ _ li2)
set_option maxHeartbeats 4000000 in
set_option maxRecDepth 100000 in
theorem law_value {p : Program} {l : Launch} {e : Env} {s : State} {m : MethodId} {args : Array Value} {below : List Frame} {meth : Method} {c : Code} {G : zG} (hl : l.stackTraces = false) (C : zOK p l e room_1 s m args below meth c G cL_law 8 RL) (hNc : zNc s) {sb L : Nat} {xs : Nat → Int32} (hX : va_X sb L xs s s.heap ∧ sb < s.heap.size ∧ sb < gN G) (hL : L ≤ 2048) (i : Nat) (hiL : i + 4 ≤ L) (p1 p2 p3 : Int32) (e1 : xs (nI (i + 1)).toNatClampNeg = p1) (e2 : xs (nI (i + 2)).toNatClampNeg = p2) (e3 : xs (nI (i + 3)).toNatClampNeg = p3) {Q : State → Prop} {h : zH} {g : XGh} {x mm o : Nat} {ad : Nat → Nat} {sz : ZS} (li : LI G h g x mm o ad sz) (cs sl : Nat) (hcs : cs + 20 ≤ 601024) (hsl : sl + 9000 ≤ 7293034) (kk : ∀ (h2 : zH) (g2 : XGh) (ad2 : Nat → Nat) (s2 : ZS), LI G h2 g2 x mm o ad2 s2 → V p l e room_1 s m args below meth c G 8 Q h2 (cs + 20) (sl + 9000) 1797 [(4, .int (nI i)), (0, .ref sb), (1, .ref x), (2, .ref mm), (3, .ref o)] []) : V p l e room_1 s m args below meth c G 8 Q h cs sl 758 [(4, .int (nI i)), (0, .ref sb), (1, .ref x), (2, .ref mm), (3, .ref o)] [] := by
  refine v_aload_n C 2 rfl dL_law_758 rfl ?_
  refine v_aload_n C 1 rfl dL_law_759 rfl ?_
  refine v_iload C 0 rfl dL_law_760 ?_
  refine v_iconst (v := 1) C dL_law_762 (by decide) ?_
  refine v_iadd C dL_law_763 (v_eqi (nI_adk i 1 (by decide)) ?_)
  refine v_sld C hX (vpin (show i + 1 < L by omega) (by omega)) dL_law_764 (v_eqi (y := p1) e1 ?_)
  refine v_aload_n C 1 rfl dL_law_765 rfl ?_
  refine v_iload C 0 rfl dL_law_766 ?_
  refine v_iconst (v := 2) C dL_law_768 (by decide) ?_
  refine v_iadd C dL_law_769 (v_eqi (nI_adk i 2 (by decide)) ?_)
  refine v_sld C hX (vpin (show i + 2 < L by omega) (by omega)) dL_law_770 (v_eqi (y := p2) e2 ?_)
  refine v_aload_n C 4 rfl dL_law_771 rfl ?_
  obtain ⟨xi0, hw, -, -, -, ⟨fo, ho⟩, hro⟩ := id li
  refine v_callL (rest := []) C hNc (c_L_value l hl G x o g sz p1 p2 fo h xi0 hw ho hro) CL_L_146 rfl rfl (Nat.le_of_ble_eq_true rfl) ⟨Nat.le_of_ble_eq_true rfl, Nat.le_of_ble_eq_true rfl⟩ ⟨by show cs + 10 ≤ 601024; omega, by show sl + 8000 ≤ 7293034; omega⟩ dL_law_772 (fun r3 h3 w3 => ?_)
  by_cases hk : (kIsTQ sz p1 p2) = 0
  · obtain ⟨er, g2, lm⟩ := li.ok w3 hk
    subst er
    refine v_istore C [(5, .int 0), (4, .int (nI i)), (0, .ref sb), (1, .ref x), (2, .ref mm), (3, .ref o)] rfl (by decide) dL_law_775 ?_
    refine v_aload_n C 4 rfl dL_law_777 rfl ?_
    refine v_aload_n C 2 rfl dL_law_778 rfl ?_
    refine v_iload C 1 rfl dL_law_779 ?_
    refine v_iconst (v := 1) C dL_law_781 (by decide) ?_
    refine v_iadd C dL_law_782 (v_eqi (nI_adk i 1 (by decide)) ?_)
    refine v_sld C hX (vpin (show i + 1 < L by omega) (by omega)) dL_law_783 (v_eqi (y := p1) e1 ?_)
    refine v_aload_n C 2 rfl dL_law_784 rfl ?_
    refine v_iload C 1 rfl dL_law_785 ?_
    refine v_iconst (v := 2) C dL_law_787 (by decide) ?_
    refine v_iadd C dL_law_788 (v_eqi (nI_adk i 2 (by decide)) ?_)
    refine v_sld C hX (vpin (show i + 2 < L by omega) (by omega)) dL_law_789 (v_eqi (y := p2) e2 ?_)
    refine v_lt (fun B hB => ?_)
    obtain ⟨xi1, ⟨k1, mo1⟩, -⟩ := id lm
    obtain ⟨ns, na, ia, la, mr, ms, -⟩ := mo1.re hB
    refine v_callV (rest := []) C (c_X5_value l hl G mm (adB ad B) ns na ia la h3 sz p1 p2 h3 mr ms hw) K_L_148 mr.1 rfl rfl (Nat.le_of_ble_eq_true rfl) ⟨Nat.le_of_ble_eq_true rfl, Nat.le_of_ble_eq_true rfl⟩ ⟨by show cs + 10 + 0 ≤ 601024; omega, by show sl + 8000 + 0 ≤ 7293034; omega⟩ dL_law_790 (fun r6 h6 w6 => ?_)
    rcases w6 with ⟨-, mo, er2⟩ | ⟨hn, -⟩
    · obtain ⟨li2, f, ho2, hf⟩ := lm.step hB hw mo
      refine v_lstore C [(6, .long r6), (5, .int 0), (4, .int (nI i)), (0, .ref sb), (1, .ref x), (2, .ref mm), (3, .ref o)] rfl (by decide) dL_law_793 ?_
      refine v_aload_n C 5 rfl dL_law_795 rfl ?_
      obtain ⟨ns2, na2, ia2, la2, mr2, ms2, ek2⟩ := id mo
      refine v_callV (rest := []) C (c_X5_thrown l hl G mm (adB ad B) ns2 na2 ia2 la2 _ h6 mr2) K_L_105 mr2.1 rfl rfl (Nat.le_of_ble_eq_true rfl) ⟨Nat.le_of_ble_eq_true rfl, Nat.le_of_ble_eq_true rfl⟩ ⟨by show cs + 10 + 0 + 0 ≤ 601024; omega, by show sl + 8000 + 0 + 0 ≤ 7293034; omega⟩ dL_law_796 (fun r7 h7 w7 => ?_)
      obtain ⟨et, rfl⟩ := w7
      rw [ek2] at et; subst et
      refine v_iload C 1 rfl dL_law_799 ?_
      refine v_icmp_eq (tgt := 806) C dL_law_801 (by decide) (fun c8 => ?_) (fun c8 => absurd c8 (by decide))
      refine v_iload C 1 rfl dL_law_806 ?_
      refine v_if_ne (tgt := 822) C dL_law_808 (by decide) (fun c9 => absurd c9 (by decide)) (fun c9 => ?_)
      refine v_aload_n C 6 rfl dL_law_811 rfl ?_
      refine v_iconst (v := 0) C dL_law_812 (by decide) ?_
      refine v_lald C ho2 (show vp_in (0 : Int32) 1 from vpin (n := 0) (N := 1) (by decide) (by decide)) dL_law_813 (v_eql (y := (oV sz (cl p1) (cl p2))) hf ?_)
      refine v_lload C 0 rfl dL_law_814 ?_
      refine v_lcmp C dL_law_816 ?_
      refine v_if_eq (tgt := 822) C dL_law_817 (by decide) (fun c10 => ?_) (fun c10 => absurd ((lgc_eq _ _).mpr er2.symm) c10)
      have c10 := (lgc_eq (oV sz (cl p1) (cl p2)) r6).mp c10
      refine v_goto (tgt := 1797) C dL_law_822 (by decide) ?_
      refine v_lvp [2, 3, 4, 5, 6] rfl ?_
      exact v_widen (by omega) (by omega) (kk _ _ _ _ li2)
    · exact absurd hk hn
  · obtain ⟨er, g2, lm⟩ := li.no w3 hk
    subst er
    have hk4 : (kIsTQ sz p1 p2) < 4 := by unfold kIsTQ; (repeat' split) <;> decide
    refine v_istore C [(5, .int (nI (kIsTQ sz p1 p2))), (4, .int (nI i)), (0, .ref sb), (1, .ref x), (2, .ref mm), (3, .ref o)] rfl (by decide) dL_law_775 ?_
    refine v_aload_n C 4 rfl dL_law_777 rfl ?_
    refine v_aload_n C 2 rfl dL_law_778 rfl ?_
    refine v_iload C 1 rfl dL_law_779 ?_
    refine v_iconst (v := 1) C dL_law_781 (by decide) ?_
    refine v_iadd C dL_law_782 (v_eqi (nI_adk i 1 (by decide)) ?_)
    refine v_sld C hX (vpin (show i + 1 < L by omega) (by omega)) dL_law_783 (v_eqi (y := p1) e1 ?_)
    refine v_aload_n C 2 rfl dL_law_784 rfl ?_
    refine v_iload C 1 rfl dL_law_785 ?_
    refine v_iconst (v := 2) C dL_law_787 (by decide) ?_
    refine v_iadd C dL_law_788 (v_eqi (nI_adk i 2 (by decide)) ?_)
    refine v_sld C hX (vpin (show i + 2 < L by omega) (by omega)) dL_law_789 (v_eqi (y := p2) e2 ?_)
    refine v_lt (fun B hB => ?_)
    obtain ⟨xi1, ⟨k1, mo1⟩, -⟩ := id lm
    obtain ⟨ns, na, ia, la, mr, ms, -⟩ := mo1.re hB
    refine v_callV (rest := []) C (c_X5_value l hl G mm (adB ad B) ns na ia la h3 sz p1 p2 h3 mr ms hw) K_L_148 mr.1 rfl rfl (Nat.le_of_ble_eq_true rfl) ⟨Nat.le_of_ble_eq_true rfl, Nat.le_of_ble_eq_true rfl⟩ ⟨by show cs + 10 + 0 ≤ 601024; omega, by show sl + 8000 + 0 ≤ 7293034; omega⟩ dL_law_790 (fun r13 h13 w13 => ?_)
    rcases w13 with ⟨hn, -⟩ | ⟨-, mo⟩
    · exact absurd hn hk
    · obtain ⟨li2, -⟩ := lm.step hB hw mo
      refine v_lstore C [(6, .long r13), (5, .int (nI (kIsTQ sz p1 p2))), (4, .int (nI i)), (0, .ref sb), (1, .ref x), (2, .ref mm), (3, .ref o)] rfl (by decide) dL_law_793 ?_
      refine v_aload_n C 5 rfl dL_law_795 rfl ?_
      obtain ⟨ns2, na2, ia2, la2, mr2, ms2, ek2⟩ := id mo
      refine v_callV (rest := []) C (c_X5_thrown l hl G mm (adB ad B) ns2 na2 ia2 la2 _ h13 mr2) K_L_105 mr2.1 rfl rfl (Nat.le_of_ble_eq_true rfl) ⟨Nat.le_of_ble_eq_true rfl, Nat.le_of_ble_eq_true rfl⟩ ⟨by show cs + 10 + 0 + 0 ≤ 601024; omega, by show sl + 8000 + 0 + 0 ≤ 7293034; omega⟩ dL_law_796 (fun r14 h14 w14 => ?_)
      obtain ⟨et, rfl⟩ := w14
      rw [ek2] at et; subst et
      refine v_iload C 1 rfl dL_law_799 ?_
      refine v_icmp_eq (tgt := 806) C dL_law_801 (by decide) (fun c15 => ?_) (fun c15 => absurd (by rfl) c15)
      have c15 := (nn_eq (a := (kIsTQ sz p1 p2)) (b := (kIsTQ sz p1 p2)) (by omega) (by omega)).mp c15
      refine v_iload C 1 rfl dL_law_806 ?_
      refine v_if_ne (tgt := 822) C dL_law_808 (by decide) (fun c16 => ?_) (fun c16 => absurd c16 (nI_nz4 hk hk4))
      have c16 := (nk_ne (a := (kIsTQ sz p1 p2)) 0 (by decide) (by omega) (by decide)).mp c16
      refine v_goto (tgt := 1797) C dL_law_822 (by decide) ?_
      refine v_lvp [2, 3, 4, 5, 6] rfl ?_
      exact v_widen (by omega) (by omega) (kk _ _ _ _ li2)
set_option maxHeartbeats 4000000 in
set_option maxRecDepth 100000 in
theorem law_textLength {p : Program} {l : Launch} {e : Env} {s : State} {m : MethodId} {args : Array Value} {below : List Frame} {meth : Method} {c : Code} {G : zG} (hl : l.stackTraces = false) (C : zOK p l e room_1 s m args below meth c G cL_law 8 RL) (hNc : zNc s) {sb L : Nat} {xs : Nat → Int32} (hX : va_X sb L xs s s.heap ∧ sb < s.heap.size ∧ sb < gN G) (hL : L ≤ 2048) (i : Nat) (hiL : i + 4 ≤ L) (p1 p2 p3 : Int32) (e1 : xs (nI (i + 1)).toNatClampNeg = p1) (e2 : xs (nI (i + 2)).toNatClampNeg = p2) (e3 : xs (nI (i + 3)).toNatClampNeg = p3) {Q : State → Prop} {h : zH} {g : XGh} {x mm o : Nat} {ad : Nat → Nat} {sz : ZS} (li : LI G h g x mm o ad sz) (cs sl : Nat) (hcs : cs + 20 ≤ 601024) (hsl : sl + 9000 ≤ 7293034) (kk : ∀ (h2 : zH) (g2 : XGh) (ad2 : Nat → Nat) (s2 : ZS), LI G h2 g2 x mm o ad2 s2 → V p l e room_1 s m args below meth c G 8 Q h2 (cs + 20) (sl + 9000) 1797 [(4, .int (nI i)), (0, .ref sb), (1, .ref x), (2, .ref mm), (3, .ref o)] []) : V p l e room_1 s m args below meth c G 8 Q h cs sl 825 [(4, .int (nI i)), (0, .ref sb), (1, .ref x), (2, .ref mm), (3, .ref o)] [] := by
  refine v_aload_n C 2 rfl dL_law_825 rfl ?_
  refine v_aload_n C 1 rfl dL_law_826 rfl ?_
  refine v_iload C 0 rfl dL_law_827 ?_
  refine v_iconst (v := 1) C dL_law_829 (by decide) ?_
  refine v_iadd C dL_law_830 (v_eqi (nI_adk i 1 (by decide)) ?_)
  refine v_sld C hX (vpin (show i + 1 < L by omega) (by omega)) dL_law_831 (v_eqi (y := p1) e1 ?_)
  refine v_aload_n C 1 rfl dL_law_832 rfl ?_
  refine v_iload C 0 rfl dL_law_833 ?_
  refine v_iconst (v := 2) C dL_law_835 (by decide) ?_
  refine v_iadd C dL_law_836 (v_eqi (nI_adk i 2 (by decide)) ?_)
  refine v_sld C hX (vpin (show i + 2 < L by omega) (by omega)) dL_law_837 (v_eqi (y := p2) e2 ?_)
  refine v_aload_n C 4 rfl dL_law_838 rfl ?_
  obtain ⟨xi0, hw, -, -, -, ⟨fo, ho⟩, hro⟩ := id li
  refine v_callL (rest := []) C hNc (c_L_textLength l hl G x o g sz p1 p2 fo h xi0 hw ho hro) CL_L_149 rfl rfl (Nat.le_of_ble_eq_true rfl) ⟨Nat.le_of_ble_eq_true rfl, Nat.le_of_ble_eq_true rfl⟩ ⟨by show cs + 10 ≤ 601024; omega, by show sl + 8000 ≤ 7293034; omega⟩ dL_law_839 (fun r3 h3 w3 => ?_)
  by_cases hk : (kIsTQ sz p1 p2) = 0
  · obtain ⟨er, g2, lm⟩ := li.ok w3 hk
    subst er
    refine v_istore C [(5, .int 0), (4, .int (nI i)), (0, .ref sb), (1, .ref x), (2, .ref mm), (3, .ref o)] rfl (by decide) dL_law_842 ?_
    refine v_aload_n C 4 rfl dL_law_844 rfl ?_
    refine v_aload_n C 2 rfl dL_law_845 rfl ?_
    refine v_iload C 1 rfl dL_law_846 ?_
    refine v_iconst (v := 1) C dL_law_848 (by decide) ?_
    refine v_iadd C dL_law_849 (v_eqi (nI_adk i 1 (by decide)) ?_)
    refine v_sld C hX (vpin (show i + 1 < L by omega) (by omega)) dL_law_850 (v_eqi (y := p1) e1 ?_)
    refine v_aload_n C 2 rfl dL_law_851 rfl ?_
    refine v_iload C 1 rfl dL_law_852 ?_
    refine v_iconst (v := 2) C dL_law_854 (by decide) ?_
    refine v_iadd C dL_law_855 (v_eqi (nI_adk i 2 (by decide)) ?_)
    refine v_sld C hX (vpin (show i + 2 < L by omega) (by omega)) dL_law_856 (v_eqi (y := p2) e2 ?_)
    refine v_lt (fun B hB => ?_)
    obtain ⟨xi1, ⟨k1, mo1⟩, -⟩ := id lm
    obtain ⟨ns, na, ia, la, mr, ms, -⟩ := mo1.re hB
    refine v_callV (rest := []) C (c_X5_textLength l hl G mm (adB ad B) ns na ia la h3 sz p1 p2 h3 mr ms hw) K_L_151 mr.1 rfl rfl (Nat.le_of_ble_eq_true rfl) ⟨Nat.le_of_ble_eq_true rfl, Nat.le_of_ble_eq_true rfl⟩ ⟨by show cs + 10 + 0 ≤ 601024; omega, by show sl + 8000 + 0 ≤ 7293034; omega⟩ dL_law_857 (fun r6 h6 w6 => ?_)
    rcases w6 with ⟨-, mo, er2⟩ | ⟨hn, -⟩
    · obtain ⟨li2, f, ho2, hf⟩ := lm.step hB hw mo
      refine v_istore C [(6, .int r6), (5, .int 0), (4, .int (nI i)), (0, .ref sb), (1, .ref x), (2, .ref mm), (3, .ref o)] rfl (by decide) dL_law_860 ?_
      refine v_aload_n C 5 rfl dL_law_862 rfl ?_
      obtain ⟨ns2, na2, ia2, la2, mr2, ms2, ek2⟩ := id mo
      refine v_callV (rest := []) C (c_X5_thrown l hl G mm (adB ad B) ns2 na2 ia2 la2 _ h6 mr2) K_L_105 mr2.1 rfl rfl (Nat.le_of_ble_eq_true rfl) ⟨Nat.le_of_ble_eq_true rfl, Nat.le_of_ble_eq_true rfl⟩ ⟨by show cs + 10 + 0 + 0 ≤ 601024; omega, by show sl + 8000 + 0 + 0 ≤ 7293034; omega⟩ dL_law_863 (fun r7 h7 w7 => ?_)
      obtain ⟨et, rfl⟩ := w7
      rw [ek2] at et; subst et
      refine v_iload C 1 rfl dL_law_866 ?_
      refine v_icmp_eq (tgt := 873) C dL_law_868 (by decide) (fun c8 => ?_) (fun c8 => absurd c8 (by decide))
      refine v_iload C 1 rfl dL_law_873 ?_
      refine v_if_ne (tgt := 890) C dL_law_875 (by decide) (fun c9 => absurd c9 (by decide)) (fun c9 => ?_)
      refine v_aload_n C 6 rfl dL_law_878 rfl ?_
      refine v_iconst (v := 0) C dL_law_879 (by decide) ?_
      refine v_lald C ho2 (show vp_in (0 : Int32) 1 from vpin (n := 0) (N := 1) (by decide) (by decide)) dL_law_880 (v_eql (y := (Int32.toInt64 (nI (txtOf (tHeld sz (cl p1) (cl p2))).length))) hf ?_)
      refine v_iload C 0 rfl dL_law_881 ?_
      refine v_i2l (v := (r6 : Int32).toInt64) C dL_law_883 rfl ?_
      refine v_lcmp C dL_law_884 ?_
      refine v_if_eq (tgt := 890) C dL_law_885 (by decide) (fun c10 => ?_) (fun c10 => absurd ((lgc_eq _ _).mpr (congrArg Int32.toInt64 er2).symm) c10)
      have c10 := (lgc_eq (Int32.toInt64 (nI (txtOf (tHeld sz (cl p1) (cl p2))).length)) (Int32.toInt64 r6)).mp c10
      refine v_goto (tgt := 1797) C dL_law_890 (by decide) ?_
      refine v_lvp [2, 3, 4, 5, 6] rfl ?_
      exact v_widen (by omega) (by omega) (kk _ _ _ _ li2)
    · exact absurd hk hn
  · obtain ⟨er, g2, lm⟩ := li.no w3 hk
    subst er
    have hk4 : (kIsTQ sz p1 p2) < 4 := by unfold kIsTQ; (repeat' split) <;> decide
    refine v_istore C [(5, .int (nI (kIsTQ sz p1 p2))), (4, .int (nI i)), (0, .ref sb), (1, .ref x), (2, .ref mm), (3, .ref o)] rfl (by decide) dL_law_842 ?_
    refine v_aload_n C 4 rfl dL_law_844 rfl ?_
    refine v_aload_n C 2 rfl dL_law_845 rfl ?_
    refine v_iload C 1 rfl dL_law_846 ?_
    refine v_iconst (v := 1) C dL_law_848 (by decide) ?_
    refine v_iadd C dL_law_849 (v_eqi (nI_adk i 1 (by decide)) ?_)
    refine v_sld C hX (vpin (show i + 1 < L by omega) (by omega)) dL_law_850 (v_eqi (y := p1) e1 ?_)
    refine v_aload_n C 2 rfl dL_law_851 rfl ?_
    refine v_iload C 1 rfl dL_law_852 ?_
    refine v_iconst (v := 2) C dL_law_854 (by decide) ?_
    refine v_iadd C dL_law_855 (v_eqi (nI_adk i 2 (by decide)) ?_)
    refine v_sld C hX (vpin (show i + 2 < L by omega) (by omega)) dL_law_856 (v_eqi (y := p2) e2 ?_)
    refine v_lt (fun B hB => ?_)
    obtain ⟨xi1, ⟨k1, mo1⟩, -⟩ := id lm
    obtain ⟨ns, na, ia, la, mr, ms, -⟩ := mo1.re hB
    refine v_callV (rest := []) C (c_X5_textLength l hl G mm (adB ad B) ns na ia la h3 sz p1 p2 h3 mr ms hw) K_L_151 mr.1 rfl rfl (Nat.le_of_ble_eq_true rfl) ⟨Nat.le_of_ble_eq_true rfl, Nat.le_of_ble_eq_true rfl⟩ ⟨by show cs + 10 + 0 ≤ 601024; omega, by show sl + 8000 + 0 ≤ 7293034; omega⟩ dL_law_857 (fun r13 h13 w13 => ?_)
    rcases w13 with ⟨hn, -⟩ | ⟨-, mo⟩
    · exact absurd hn hk
    · obtain ⟨li2, -⟩ := lm.step hB hw mo
      refine v_istore C [(6, .int r13), (5, .int (nI (kIsTQ sz p1 p2))), (4, .int (nI i)), (0, .ref sb), (1, .ref x), (2, .ref mm), (3, .ref o)] rfl (by decide) dL_law_860 ?_
      refine v_aload_n C 5 rfl dL_law_862 rfl ?_
      obtain ⟨ns2, na2, ia2, la2, mr2, ms2, ek2⟩ := id mo
      refine v_callV (rest := []) C (c_X5_thrown l hl G mm (adB ad B) ns2 na2 ia2 la2 _ h13 mr2) K_L_105 mr2.1 rfl rfl (Nat.le_of_ble_eq_true rfl) ⟨Nat.le_of_ble_eq_true rfl, Nat.le_of_ble_eq_true rfl⟩ ⟨by show cs + 10 + 0 + 0 ≤ 601024; omega, by show sl + 8000 + 0 + 0 ≤ 7293034; omega⟩ dL_law_863 (fun r14 h14 w14 => ?_)
      obtain ⟨et, rfl⟩ := w14
      rw [ek2] at et; subst et
      refine v_iload C 1 rfl dL_law_866 ?_
      refine v_icmp_eq (tgt := 873) C dL_law_868 (by decide) (fun c15 => ?_) (fun c15 => absurd (by rfl) c15)
      have c15 := (nn_eq (a := (kIsTQ sz p1 p2)) (b := (kIsTQ sz p1 p2)) (by omega) (by omega)).mp c15
      refine v_iload C 1 rfl dL_law_873 ?_
      refine v_if_ne (tgt := 890) C dL_law_875 (by decide) (fun c16 => ?_) (fun c16 => absurd c16 (nI_nz4 hk hk4))
      have c16 := (nk_ne (a := (kIsTQ sz p1 p2)) 0 (by decide) (by omega) (by decide)).mp c16
      refine v_goto (tgt := 1797) C dL_law_890 (by decide) ?_
      refine v_lvp [2, 3, 4, 5, 6] rfl ?_
      exact v_widen (by omega) (by omega) (kk _ _ _ _ li2)
set_option maxHeartbeats 4000000 in
set_option maxRecDepth 100000 in
theorem law_textChar {p : Program} {l : Launch} {e : Env} {s : State} {m : MethodId} {args : Array Value} {below : List Frame} {meth : Method} {c : Code} {G : zG} (hl : l.stackTraces = false) (C : zOK p l e room_1 s m args below meth c G cL_law 8 RL) (hNc : zNc s) {sb L : Nat} {xs : Nat → Int32} (hX : va_X sb L xs s s.heap ∧ sb < s.heap.size ∧ sb < gN G) (hL : L ≤ 2048) (i : Nat) (hiL : i + 4 ≤ L) (p1 p2 p3 : Int32) (e1 : xs (nI (i + 1)).toNatClampNeg = p1) (e2 : xs (nI (i + 2)).toNatClampNeg = p2) (e3 : xs (nI (i + 3)).toNatClampNeg = p3) {Q : State → Prop} {h : zH} {g : XGh} {x mm o : Nat} {ad : Nat → Nat} {sz : ZS} (li : LI G h g x mm o ad sz) (cs sl : Nat) (hcs : cs + 20 ≤ 601024) (hsl : sl + 9000 ≤ 7293034) (kk : ∀ (h2 : zH) (g2 : XGh) (ad2 : Nat → Nat) (s2 : ZS), LI G h2 g2 x mm o ad2 s2 → V p l e room_1 s m args below meth c G 8 Q h2 (cs + 20) (sl + 9000) 1797 [(4, .int (nI i)), (0, .ref sb), (1, .ref x), (2, .ref mm), (3, .ref o)] []) : V p l e room_1 s m args below meth c G 8 Q h cs sl 893 [(4, .int (nI i)), (0, .ref sb), (1, .ref x), (2, .ref mm), (3, .ref o)] [] := by
  refine v_aload_n C 2 rfl dL_law_893 rfl ?_
  refine v_aload_n C 1 rfl dL_law_894 rfl ?_
  refine v_iload C 0 rfl dL_law_895 ?_
  refine v_iconst (v := 1) C dL_law_897 (by decide) ?_
  refine v_iadd C dL_law_898 (v_eqi (nI_adk i 1 (by decide)) ?_)
  refine v_sld C hX (vpin (show i + 1 < L by omega) (by omega)) dL_law_899 (v_eqi (y := p1) e1 ?_)
  refine v_aload_n C 1 rfl dL_law_900 rfl ?_
  refine v_iload C 0 rfl dL_law_901 ?_
  refine v_iconst (v := 2) C dL_law_903 (by decide) ?_
  refine v_iadd C dL_law_904 (v_eqi (nI_adk i 2 (by decide)) ?_)
  refine v_sld C hX (vpin (show i + 2 < L by omega) (by omega)) dL_law_905 (v_eqi (y := p2) e2 ?_)
  refine v_aload_n C 1 rfl dL_law_906 rfl ?_
  refine v_iload C 0 rfl dL_law_907 ?_
  refine v_iconst (v := 3) C dL_law_909 (by decide) ?_
  refine v_iadd C dL_law_910 (v_eqi (nI_adk i 3 (by decide)) ?_)
  refine v_sld C hX (vpin (show i + 3 < L by omega) (by omega)) dL_law_911 (v_eqi (y := p3) e3 ?_)
  refine v_aload_n C 4 rfl dL_law_912 rfl ?_
  obtain ⟨xi0, hw, -, -, -, ⟨fo, ho⟩, hro⟩ := id li
  refine v_callL (rest := []) C hNc (c_L_textChar l hl G x o g sz p1 p2 p3 fo h xi0 hw ho hro) CL_L_152 rfl rfl (Nat.le_of_ble_eq_true rfl) ⟨Nat.le_of_ble_eq_true rfl, Nat.le_of_ble_eq_true rfl⟩ ⟨by show cs + 10 ≤ 601024; omega, by show sl + 8000 ≤ 7293034; omega⟩ dL_law_913 (fun r4 h4 w4 => ?_)
  by_cases hk : (kChar sz p1 p2 p3) = 0
  · obtain ⟨er, g2, lm⟩ := li.ok w4 hk
    subst er
    refine v_istore C [(5, .int 0), (4, .int (nI i)), (0, .ref sb), (1, .ref x), (2, .ref mm), (3, .ref o)] rfl (by decide) dL_law_916 ?_
    refine v_aload_n C 4 rfl dL_law_918 rfl ?_
    refine v_aload_n C 2 rfl dL_law_919 rfl ?_
    refine v_iload C 1 rfl dL_law_920 ?_
    refine v_iconst (v := 1) C dL_law_922 (by decide) ?_
    refine v_iadd C dL_law_923 (v_eqi (nI_adk i 1 (by decide)) ?_)
    refine v_sld C hX (vpin (show i + 1 < L by omega) (by omega)) dL_law_924 (v_eqi (y := p1) e1 ?_)
    refine v_aload_n C 2 rfl dL_law_925 rfl ?_
    refine v_iload C 1 rfl dL_law_926 ?_
    refine v_iconst (v := 2) C dL_law_928 (by decide) ?_
    refine v_iadd C dL_law_929 (v_eqi (nI_adk i 2 (by decide)) ?_)
    refine v_sld C hX (vpin (show i + 2 < L by omega) (by omega)) dL_law_930 (v_eqi (y := p2) e2 ?_)
    refine v_aload_n C 2 rfl dL_law_931 rfl ?_
    refine v_iload C 1 rfl dL_law_932 ?_
    refine v_iconst (v := 3) C dL_law_934 (by decide) ?_
    refine v_iadd C dL_law_935 (v_eqi (nI_adk i 3 (by decide)) ?_)
    refine v_sld C hX (vpin (show i + 3 < L by omega) (by omega)) dL_law_936 (v_eqi (y := p3) e3 ?_)
    refine v_lt (fun B hB => ?_)
    obtain ⟨xi1, ⟨k1, mo1⟩, -⟩ := id lm
    obtain ⟨ns, na, ia, la, mr, ms, -⟩ := mo1.re hB
    refine v_callV (rest := []) C (c_X5_textChar l hl G mm (adB ad B) ns na ia la h4 sz p1 p2 p3 h4 mr ms hw) K_L_154 mr.1 rfl rfl (Nat.le_of_ble_eq_true rfl) ⟨Nat.le_of_ble_eq_true rfl, Nat.le_of_ble_eq_true rfl⟩ ⟨by show cs + 10 + 0 ≤ 601024; omega, by show sl + 8000 + 0 ≤ 7293034; omega⟩ dL_law_937 (fun r8 h8 w8 => ?_)
    rcases w8 with ⟨-, mo, er2⟩ | ⟨hn, -⟩
    · obtain ⟨li2, f, ho2, hf⟩ := lm.step hB hw mo
      refine v_istore C [(6, .int r8), (5, .int 0), (4, .int (nI i)), (0, .ref sb), (1, .ref x), (2, .ref mm), (3, .ref o)] rfl (by decide) dL_law_940 ?_
      refine v_aload_n C 5 rfl dL_law_942 rfl ?_
      obtain ⟨ns2, na2, ia2, la2, mr2, ms2, ek2⟩ := id mo
      refine v_callV (rest := []) C (c_X5_thrown l hl G mm (adB ad B) ns2 na2 ia2 la2 _ h8 mr2) K_L_105 mr2.1 rfl rfl (Nat.le_of_ble_eq_true rfl) ⟨Nat.le_of_ble_eq_true rfl, Nat.le_of_ble_eq_true rfl⟩ ⟨by show cs + 10 + 0 + 0 ≤ 601024; omega, by show sl + 8000 + 0 + 0 ≤ 7293034; omega⟩ dL_law_943 (fun r9 h9 w9 => ?_)
      obtain ⟨et, rfl⟩ := w9
      rw [ek2] at et; subst et
      refine v_iload C 1 rfl dL_law_946 ?_
      refine v_icmp_eq (tgt := 953) C dL_law_948 (by decide) (fun c10 => ?_) (fun c10 => absurd c10 (by decide))
      refine v_iload C 1 rfl dL_law_953 ?_
      refine v_if_ne (tgt := 970) C dL_law_955 (by decide) (fun c11 => absurd c11 (by decide)) (fun c11 => ?_)
      refine v_aload_n C 6 rfl dL_law_958 rfl ?_
      refine v_iconst (v := 0) C dL_law_959 (by decide) ?_
      refine v_lald C ho2 (show vp_in (0 : Int32) 1 from vpin (n := 0) (N := 1) (by decide) (by decide)) dL_law_960 (v_eql (y := (Int32.toInt64 (nI ((txtOf (tHeld sz (cl p1) (cl p2))).getD (cl p3) 0)))) hf ?_)
      refine v_iload C 0 rfl dL_law_961 ?_
      refine v_i2l (v := (r8 : Int32).toInt64) C dL_law_963 rfl ?_
      refine v_lcmp C dL_law_964 ?_
      refine v_if_eq (tgt := 970) C dL_law_965 (by decide) (fun c12 => ?_) (fun c12 => absurd ((lgc_eq _ _).mpr (congrArg Int32.toInt64 er2).symm) c12)
      have c12 := (lgc_eq (Int32.toInt64 (nI ((txtOf (tHeld sz (cl p1) (cl p2))).getD (cl p3) 0))) (Int32.toInt64 r8)).mp c12
      refine v_goto (tgt := 1797) C dL_law_970 (by decide) ?_
      refine v_lvp [2, 3, 4, 5, 6] rfl ?_
      exact v_widen (by omega) (by omega) (kk _ _ _ _ li2)
    · exact absurd hk hn
  · obtain ⟨er, g2, lm⟩ := li.no w4 hk
    subst er
    have hk4 : (kChar sz p1 p2 p3) < 4 := by unfold kChar; (repeat' split) <;> decide
    refine v_istore C [(5, .int (nI (kChar sz p1 p2 p3))), (4, .int (nI i)), (0, .ref sb), (1, .ref x), (2, .ref mm), (3, .ref o)] rfl (by decide) dL_law_916 ?_
    refine v_aload_n C 4 rfl dL_law_918 rfl ?_
    refine v_aload_n C 2 rfl dL_law_919 rfl ?_
    refine v_iload C 1 rfl dL_law_920 ?_
    refine v_iconst (v := 1) C dL_law_922 (by decide) ?_
    refine v_iadd C dL_law_923 (v_eqi (nI_adk i 1 (by decide)) ?_)
    refine v_sld C hX (vpin (show i + 1 < L by omega) (by omega)) dL_law_924 (v_eqi (y := p1) e1 ?_)
    refine v_aload_n C 2 rfl dL_law_925 rfl ?_
    refine v_iload C 1 rfl dL_law_926 ?_
    refine v_iconst (v := 2) C dL_law_928 (by decide) ?_
    refine v_iadd C dL_law_929 (v_eqi (nI_adk i 2 (by decide)) ?_)
    refine v_sld C hX (vpin (show i + 2 < L by omega) (by omega)) dL_law_930 (v_eqi (y := p2) e2 ?_)
    refine v_aload_n C 2 rfl dL_law_931 rfl ?_
    refine v_iload C 1 rfl dL_law_932 ?_
    refine v_iconst (v := 3) C dL_law_934 (by decide) ?_
    refine v_iadd C dL_law_935 (v_eqi (nI_adk i 3 (by decide)) ?_)
    refine v_sld C hX (vpin (show i + 3 < L by omega) (by omega)) dL_law_936 (v_eqi (y := p3) e3 ?_)
    refine v_lt (fun B hB => ?_)
    obtain ⟨xi1, ⟨k1, mo1⟩, -⟩ := id lm
    obtain ⟨ns, na, ia, la, mr, ms, -⟩ := mo1.re hB
    refine v_callV (rest := []) C (c_X5_textChar l hl G mm (adB ad B) ns na ia la h4 sz p1 p2 p3 h4 mr ms hw) K_L_154 mr.1 rfl rfl (Nat.le_of_ble_eq_true rfl) ⟨Nat.le_of_ble_eq_true rfl, Nat.le_of_ble_eq_true rfl⟩ ⟨by show cs + 10 + 0 ≤ 601024; omega, by show sl + 8000 + 0 ≤ 7293034; omega⟩ dL_law_937 (fun r16 h16 w16 => ?_)
    rcases w16 with ⟨hn, -⟩ | ⟨-, mo⟩
    · exact absurd hn hk
    · obtain ⟨li2, -⟩ := lm.step hB hw mo
      refine v_istore C [(6, .int r16), (5, .int (nI (kChar sz p1 p2 p3))), (4, .int (nI i)), (0, .ref sb), (1, .ref x), (2, .ref mm), (3, .ref o)] rfl (by decide) dL_law_940 ?_
      refine v_aload_n C 5 rfl dL_law_942 rfl ?_
      obtain ⟨ns2, na2, ia2, la2, mr2, ms2, ek2⟩ := id mo
      refine v_callV (rest := []) C (c_X5_thrown l hl G mm (adB ad B) ns2 na2 ia2 la2 _ h16 mr2) K_L_105 mr2.1 rfl rfl (Nat.le_of_ble_eq_true rfl) ⟨Nat.le_of_ble_eq_true rfl, Nat.le_of_ble_eq_true rfl⟩ ⟨by show cs + 10 + 0 + 0 ≤ 601024; omega, by show sl + 8000 + 0 + 0 ≤ 7293034; omega⟩ dL_law_943 (fun r17 h17 w17 => ?_)
      obtain ⟨et, rfl⟩ := w17
      rw [ek2] at et; subst et
      refine v_iload C 1 rfl dL_law_946 ?_
      refine v_icmp_eq (tgt := 953) C dL_law_948 (by decide) (fun c18 => ?_) (fun c18 => absurd (by rfl) c18)
      have c18 := (nn_eq (a := (kChar sz p1 p2 p3)) (b := (kChar sz p1 p2 p3)) (by omega) (by omega)).mp c18
      refine v_iload C 1 rfl dL_law_953 ?_
      refine v_if_ne (tgt := 970) C dL_law_955 (by decide) (fun c19 => ?_) (fun c19 => absurd c19 (nI_nz4 hk hk4))
      have c19 := (nk_ne (a := (kChar sz p1 p2 p3)) 0 (by decide) (by omega) (by decide)).mp c19
      refine v_goto (tgt := 1797) C dL_law_970 (by decide) ?_
      refine v_lvp [2, 3, 4, 5, 6] rfl ?_
      exact v_widen (by omega) (by omega) (kk _ _ _ _ li2)
set_option maxHeartbeats 4000000 in
set_option maxRecDepth 100000 in
theorem law_test {p : Program} {l : Launch} {e : Env} {s : State} {m : MethodId} {args : Array Value} {below : List Frame} {meth : Method} {c : Code} {G : zG} (hl : l.stackTraces = false) (C : zOK p l e room_1 s m args below meth c G cL_law 8 RL) (hNc : zNc s) {sb L : Nat} {xs : Nat → Int32} (hX : va_X sb L xs s s.heap ∧ sb < s.heap.size ∧ sb < gN G) (hL : L ≤ 2048) (i : Nat) (hiL : i + 4 ≤ L) (p1 p2 p3 : Int32) (e1 : xs (nI (i + 1)).toNatClampNeg = p1) (e2 : xs (nI (i + 2)).toNatClampNeg = p2) (e3 : xs (nI (i + 3)).toNatClampNeg = p3) {Q : State → Prop} {h : zH} {g : XGh} {x mm o : Nat} {ad : Nat → Nat} {sz : ZS} (li : LI G h g x mm o ad sz) (cs sl : Nat) (hcs : cs + 20 ≤ 601024) (hsl : sl + 9000 ≤ 7293034) (kk : ∀ (h2 : zH) (g2 : XGh) (ad2 : Nat → Nat) (s2 : ZS), LI G h2 g2 x mm o ad2 s2 → V p l e room_1 s m args below meth c G 8 Q h2 (cs + 20) (sl + 9000) 1797 [(4, .int (nI i)), (0, .ref sb), (1, .ref x), (2, .ref mm), (3, .ref o)] []) : V p l e room_1 s m args below meth c G 8 Q h cs sl 973 [(4, .int (nI i)), (0, .ref sb), (1, .ref x), (2, .ref mm), (3, .ref o)] [] := by
  refine v_aload_n C 2 rfl dL_law_973 rfl ?_
  refine v_aload_n C 1 rfl dL_law_974 rfl ?_
  refine v_iload C 0 rfl dL_law_975 ?_
  refine v_iconst (v := 1) C dL_law_977 (by decide) ?_
  refine v_iadd C dL_law_978 (v_eqi (nI_adk i 1 (by decide)) ?_)
  refine v_sld C hX (vpin (show i + 1 < L by omega) (by omega)) dL_law_979 (v_eqi (y := p1) e1 ?_)
  refine v_aload_n C 1 rfl dL_law_980 rfl ?_
  refine v_iload C 0 rfl dL_law_981 ?_
  refine v_iconst (v := 2) C dL_law_983 (by decide) ?_
  refine v_iadd C dL_law_984 (v_eqi (nI_adk i 2 (by decide)) ?_)
  refine v_sld C hX (vpin (show i + 2 < L by omega) (by omega)) dL_law_985 (v_eqi (y := p2) e2 ?_)
  refine v_aload_n C 4 rfl dL_law_986 rfl ?_
  obtain ⟨xi0, hw, -, -, -, ⟨fo, ho⟩, hro⟩ := id li
  refine v_callL (rest := []) C hNc (c_L_test l hl G x o g sz p1 p2 fo h xi0 hw ho hro) CL_L_155 rfl rfl (Nat.le_of_ble_eq_true rfl) ⟨Nat.le_of_ble_eq_true rfl, Nat.le_of_ble_eq_true rfl⟩ ⟨by show cs + 10 ≤ 601024; omega, by show sl + 8000 ≤ 7293034; omega⟩ dL_law_987 (fun r3 h3 w3 => ?_)
  by_cases hk : (kTest sz p1 p2) = 0
  · obtain ⟨er, g2, lm⟩ := li.ok w3 hk
    subst er
    refine v_istore C [(5, .int 0), (4, .int (nI i)), (0, .ref sb), (1, .ref x), (2, .ref mm), (3, .ref o)] rfl (by decide) dL_law_990 ?_
    refine v_aload_n C 4 rfl dL_law_992 rfl ?_
    refine v_aload_n C 2 rfl dL_law_993 rfl ?_
    refine v_iload C 1 rfl dL_law_994 ?_
    refine v_iconst (v := 1) C dL_law_996 (by decide) ?_
    refine v_iadd C dL_law_997 (v_eqi (nI_adk i 1 (by decide)) ?_)
    refine v_sld C hX (vpin (show i + 1 < L by omega) (by omega)) dL_law_998 (v_eqi (y := p1) e1 ?_)
    refine v_aload_n C 2 rfl dL_law_999 rfl ?_
    refine v_iload C 1 rfl dL_law_1000 ?_
    refine v_iconst (v := 2) C dL_law_1002 (by decide) ?_
    refine v_iadd C dL_law_1003 (v_eqi (nI_adk i 2 (by decide)) ?_)
    refine v_sld C hX (vpin (show i + 2 < L by omega) (by omega)) dL_law_1004 (v_eqi (y := p2) e2 ?_)
    refine v_lt (fun B hB => ?_)
    obtain ⟨xi1, ⟨k1, mo1⟩, -⟩ := id lm
    obtain ⟨ns, na, ia, la, mr, ms, -⟩ := mo1.re hB
    refine v_callV (rest := []) C (c_X5_test l hl G mm (adB ad B) ns na ia la h3 sz p1 p2 h3 mr ms hw) K_L_157 mr.1 rfl rfl (Nat.le_of_ble_eq_true rfl) ⟨Nat.le_of_ble_eq_true rfl, Nat.le_of_ble_eq_true rfl⟩ ⟨by show cs + 10 + 0 ≤ 601024; omega, by show sl + 8000 + 0 ≤ 7293034; omega⟩ dL_law_1005 (fun r6 h6 w6 => ?_)
    rcases w6 with ⟨-, mo, er2⟩ | ⟨hn, -⟩
    · obtain ⟨li2, f, ho2, hf⟩ := lm.step hB (wf_test hw hk) mo
      refine v_istore C [(6, .int r6), (5, .int 0), (4, .int (nI i)), (0, .ref sb), (1, .ref x), (2, .ref mm), (3, .ref o)] rfl (by decide) dL_law_1008 ?_
      refine v_aload_n C 5 rfl dL_law_1010 rfl ?_
      obtain ⟨ns2, na2, ia2, la2, mr2, ms2, ek2⟩ := id mo
      refine v_callV (rest := []) C (c_X5_thrown l hl G mm (adB ad B) ns2 na2 ia2 la2 _ h6 mr2) K_L_105 mr2.1 rfl rfl (Nat.le_of_ble_eq_true rfl) ⟨Nat.le_of_ble_eq_true rfl, Nat.le_of_ble_eq_true rfl⟩ ⟨by show cs + 10 + 0 + 0 ≤ 601024; omega, by show sl + 8000 + 0 + 0 ≤ 7293034; omega⟩ dL_law_1011 (fun r7 h7 w7 => ?_)
      obtain ⟨et, rfl⟩ := w7
      rw [ek2] at et; subst et
      refine v_iload C 1 rfl dL_law_1014 ?_
      refine v_icmp_eq (tgt := 1021) C dL_law_1016 (by decide) (fun c8 => ?_) (fun c8 => absurd c8 (by decide))
      refine v_iload C 1 rfl dL_law_1021 ?_
      refine v_if_ne (tgt := 1038) C dL_law_1023 (by decide) (fun c9 => absurd c9 (by decide)) (fun c9 => ?_)
      refine v_aload_n C 6 rfl dL_law_1026 rfl ?_
      refine v_iconst (v := 0) C dL_law_1027 (by decide) ?_
      refine v_lald C ho2 (show vp_in (0 : Int32) 1 from vpin (n := 0) (N := 1) (by decide) (by decide)) dL_law_1028 (v_eql (y := (Int32.toInt64 (nI (rN sz)))) hf ?_)
      refine v_iload C 0 rfl dL_law_1029 ?_
      refine v_i2l (v := (r6 : Int32).toInt64) C dL_law_1031 rfl ?_
      refine v_lcmp C dL_law_1032 ?_
      refine v_if_eq (tgt := 1038) C dL_law_1033 (by decide) (fun c10 => ?_) (fun c10 => absurd ((lgc_eq _ _).mpr (congrArg Int32.toInt64 er2).symm) c10)
      have c10 := (lgc_eq (Int32.toInt64 (nI (rN sz))) (Int32.toInt64 r6)).mp c10
      refine v_goto (tgt := 1797) C dL_law_1038 (by decide) ?_
      refine v_lvp [2, 3, 4, 5, 6] rfl ?_
      exact v_widen (by omega) (by omega) (kk _ _ _ _ li2)
    · exact absurd hk hn
  · obtain ⟨er, g2, lm⟩ := li.no w3 hk
    subst er
    have hk4 : (kTest sz p1 p2) < 4 := by unfold kTest; (repeat' split) <;> decide
    refine v_istore C [(5, .int (nI (kTest sz p1 p2))), (4, .int (nI i)), (0, .ref sb), (1, .ref x), (2, .ref mm), (3, .ref o)] rfl (by decide) dL_law_990 ?_
    refine v_aload_n C 4 rfl dL_law_992 rfl ?_
    refine v_aload_n C 2 rfl dL_law_993 rfl ?_
    refine v_iload C 1 rfl dL_law_994 ?_
    refine v_iconst (v := 1) C dL_law_996 (by decide) ?_
    refine v_iadd C dL_law_997 (v_eqi (nI_adk i 1 (by decide)) ?_)
    refine v_sld C hX (vpin (show i + 1 < L by omega) (by omega)) dL_law_998 (v_eqi (y := p1) e1 ?_)
    refine v_aload_n C 2 rfl dL_law_999 rfl ?_
    refine v_iload C 1 rfl dL_law_1000 ?_
    refine v_iconst (v := 2) C dL_law_1002 (by decide) ?_
    refine v_iadd C dL_law_1003 (v_eqi (nI_adk i 2 (by decide)) ?_)
    refine v_sld C hX (vpin (show i + 2 < L by omega) (by omega)) dL_law_1004 (v_eqi (y := p2) e2 ?_)
    refine v_lt (fun B hB => ?_)
    obtain ⟨xi1, ⟨k1, mo1⟩, -⟩ := id lm
    obtain ⟨ns, na, ia, la, mr, ms, -⟩ := mo1.re hB
    refine v_callV (rest := []) C (c_X5_test l hl G mm (adB ad B) ns na ia la h3 sz p1 p2 h3 mr ms hw) K_L_157 mr.1 rfl rfl (Nat.le_of_ble_eq_true rfl) ⟨Nat.le_of_ble_eq_true rfl, Nat.le_of_ble_eq_true rfl⟩ ⟨by show cs + 10 + 0 ≤ 601024; omega, by show sl + 8000 + 0 ≤ 7293034; omega⟩ dL_law_1005 (fun r13 h13 w13 => ?_)
    rcases w13 with ⟨hn, -⟩ | ⟨-, mo⟩
    · exact absurd hn hk
    · obtain ⟨li2, -⟩ := lm.step hB hw mo
      refine v_istore C [(6, .int r13), (5, .int (nI (kTest sz p1 p2))), (4, .int (nI i)), (0, .ref sb), (1, .ref x), (2, .ref mm), (3, .ref o)] rfl (by decide) dL_law_1008 ?_
      refine v_aload_n C 5 rfl dL_law_1010 rfl ?_
      obtain ⟨ns2, na2, ia2, la2, mr2, ms2, ek2⟩ := id mo
      refine v_callV (rest := []) C (c_X5_thrown l hl G mm (adB ad B) ns2 na2 ia2 la2 _ h13 mr2) K_L_105 mr2.1 rfl rfl (Nat.le_of_ble_eq_true rfl) ⟨Nat.le_of_ble_eq_true rfl, Nat.le_of_ble_eq_true rfl⟩ ⟨by show cs + 10 + 0 + 0 ≤ 601024; omega, by show sl + 8000 + 0 + 0 ≤ 7293034; omega⟩ dL_law_1011 (fun r14 h14 w14 => ?_)
      obtain ⟨et, rfl⟩ := w14
      rw [ek2] at et; subst et
      refine v_iload C 1 rfl dL_law_1014 ?_
      refine v_icmp_eq (tgt := 1021) C dL_law_1016 (by decide) (fun c15 => ?_) (fun c15 => absurd (by rfl) c15)
      have c15 := (nn_eq (a := (kTest sz p1 p2)) (b := (kTest sz p1 p2)) (by omega) (by omega)).mp c15
      refine v_iload C 1 rfl dL_law_1021 ?_
      refine v_if_ne (tgt := 1038) C dL_law_1023 (by decide) (fun c16 => ?_) (fun c16 => absurd c16 (nI_nz4 hk hk4))
      have c16 := (nk_ne (a := (kTest sz p1 p2)) 0 (by decide) (by omega) (by decide)).mp c16
      refine v_goto (tgt := 1797) C dL_law_1038 (by decide) ?_
      refine v_lvp [2, 3, 4, 5, 6] rfl ?_
      exact v_widen (by omega) (by omega) (kk _ _ _ _ li2)
set_option maxHeartbeats 4000000 in
set_option maxRecDepth 100000 in
theorem law_limit {p : Program} {l : Launch} {e : Env} {s : State} {m : MethodId} {args : Array Value} {below : List Frame} {meth : Method} {c : Code} {G : zG} (hl : l.stackTraces = false) (C : zOK p l e room_1 s m args below meth c G cL_law 8 RL) (hNc : zNc s) {sb L : Nat} {xs : Nat → Int32} (hX : va_X sb L xs s s.heap ∧ sb < s.heap.size ∧ sb < gN G) (hL : L ≤ 2048) (i : Nat) (hiL : i + 4 ≤ L) (p1 p2 p3 : Int32) (e1 : xs (nI (i + 1)).toNatClampNeg = p1) (e2 : xs (nI (i + 2)).toNatClampNeg = p2) (e3 : xs (nI (i + 3)).toNatClampNeg = p3) {Q : State → Prop} {h : zH} {g : XGh} {x mm o : Nat} {ad : Nat → Nat} {sz : ZS} (li : LI G h g x mm o ad sz) (cs sl : Nat) (hcs : cs + 20 ≤ 601024) (hsl : sl + 9000 ≤ 7293034) (kk : ∀ (h2 : zH) (g2 : XGh) (ad2 : Nat → Nat) (s2 : ZS), LI G h2 g2 x mm o ad2 s2 → V p l e room_1 s m args below meth c G 8 Q h2 (cs + 20) (sl + 9000) 1797 [(4, .int (nI i)), (0, .ref sb), (1, .ref x), (2, .ref mm), (3, .ref o)] []) : V p l e room_1 s m args below meth c G 8 Q h cs sl 1041 [(4, .int (nI i)), (0, .ref sb), (1, .ref x), (2, .ref mm), (3, .ref o)] [] := by
  refine v_aload_n C 2 rfl dL_law_1041 rfl ?_
  refine v_aload_n C 1 rfl dL_law_1042 rfl ?_
  refine v_iload C 0 rfl dL_law_1043 ?_
  refine v_iconst (v := 1) C dL_law_1045 (by decide) ?_
  refine v_iadd C dL_law_1046 (v_eqi (nI_adk i 1 (by decide)) ?_)
  refine v_sld C hX (vpin (show i + 1 < L by omega) (by omega)) dL_law_1047 (v_eqi (y := p1) e1 ?_)
  refine v_aload_n C 1 rfl dL_law_1048 rfl ?_
  refine v_iload C 0 rfl dL_law_1049 ?_
  refine v_iconst (v := 2) C dL_law_1051 (by decide) ?_
  refine v_iadd C dL_law_1052 (v_eqi (nI_adk i 2 (by decide)) ?_)
  refine v_sld C hX (vpin (show i + 2 < L by omega) (by omega)) dL_law_1053 (v_eqi (y := p2) e2 ?_)
  refine v_aload_n C 1 rfl dL_law_1054 rfl ?_
  refine v_iload C 0 rfl dL_law_1055 ?_
  refine v_iconst (v := 3) C dL_law_1057 (by decide) ?_
  refine v_iadd C dL_law_1058 (v_eqi (nI_adk i 3 (by decide)) ?_)
  refine v_sld C hX (vpin (show i + 3 < L by omega) (by omega)) dL_law_1059 (v_eqi (y := p3) e3 ?_)
  refine v_aload_n C 4 rfl dL_law_1060 rfl ?_
  obtain ⟨xi0, hw, -, -, -, ⟨fo, ho⟩, hro⟩ := id li
  refine v_callL (rest := []) C hNc (c_L_limit l hl G x o g sz p1 p2 p3 fo h xi0 hw ho hro) CL_L_158 rfl rfl (Nat.le_of_ble_eq_true rfl) ⟨Nat.le_of_ble_eq_true rfl, Nat.le_of_ble_eq_true rfl⟩ ⟨by show cs + 10 ≤ 601024; omega, by show sl + 8000 ≤ 7293034; omega⟩ dL_law_1061 (fun r4 h4 w4 => ?_)
  by_cases hk : (kLimit sz p1 p2 p3) = 0
  · obtain ⟨er, g2, lm⟩ := li.ok w4 hk
    subst er
    refine v_istore C [(5, .int 0), (4, .int (nI i)), (0, .ref sb), (1, .ref x), (2, .ref mm), (3, .ref o)] rfl (by decide) dL_law_1064 ?_
    refine v_aload_n C 4 rfl dL_law_1066 rfl ?_
    refine v_aload_n C 2 rfl dL_law_1067 rfl ?_
    refine v_iload C 1 rfl dL_law_1068 ?_
    refine v_iconst (v := 1) C dL_law_1070 (by decide) ?_
    refine v_iadd C dL_law_1071 (v_eqi (nI_adk i 1 (by decide)) ?_)
    refine v_sld C hX (vpin (show i + 1 < L by omega) (by omega)) dL_law_1072 (v_eqi (y := p1) e1 ?_)
    refine v_aload_n C 2 rfl dL_law_1073 rfl ?_
    refine v_iload C 1 rfl dL_law_1074 ?_
    refine v_iconst (v := 2) C dL_law_1076 (by decide) ?_
    refine v_iadd C dL_law_1077 (v_eqi (nI_adk i 2 (by decide)) ?_)
    refine v_sld C hX (vpin (show i + 2 < L by omega) (by omega)) dL_law_1078 (v_eqi (y := p2) e2 ?_)
    refine v_aload_n C 2 rfl dL_law_1079 rfl ?_
    refine v_iload C 1 rfl dL_law_1080 ?_
    refine v_iconst (v := 3) C dL_law_1082 (by decide) ?_
    refine v_iadd C dL_law_1083 (v_eqi (nI_adk i 3 (by decide)) ?_)
    refine v_sld C hX (vpin (show i + 3 < L by omega) (by omega)) dL_law_1084 (v_eqi (y := p3) e3 ?_)
    refine v_lt (fun B hB => ?_)
    obtain ⟨xi1, ⟨k1, mo1⟩, -⟩ := id lm
    obtain ⟨ns, na, ia, la, mr, ms, -⟩ := mo1.re hB
    refine v_callV (rest := []) C (c_X5_limit l hl G mm (adB ad B) ns na ia la h4 sz p1 p2 p3 h4 mr ms hw) K_L_160 mr.1 rfl rfl (Nat.le_of_ble_eq_true rfl) ⟨Nat.le_of_ble_eq_true rfl, Nat.le_of_ble_eq_true rfl⟩ ⟨by show cs + 10 + 0 ≤ 601024; omega, by show sl + 8000 + 0 ≤ 7293034; omega⟩ dL_law_1085 (fun r8 h8 w8 => ?_)
    rcases w8 with ⟨-, mo, er2⟩ | ⟨hn, -⟩
    · obtain ⟨li2, f, ho2, hf⟩ := lm.step hB (wf_limit hw hk) mo
      refine v_istore C [(6, .int r8), (5, .int 0), (4, .int (nI i)), (0, .ref sb), (1, .ref x), (2, .ref mm), (3, .ref o)] rfl (by decide) dL_law_1088 ?_
      refine v_aload_n C 5 rfl dL_law_1090 rfl ?_
      obtain ⟨ns2, na2, ia2, la2, mr2, ms2, ek2⟩ := id mo
      refine v_callV (rest := []) C (c_X5_thrown l hl G mm (adB ad B) ns2 na2 ia2 la2 _ h8 mr2) K_L_105 mr2.1 rfl rfl (Nat.le_of_ble_eq_true rfl) ⟨Nat.le_of_ble_eq_true rfl, Nat.le_of_ble_eq_true rfl⟩ ⟨by show cs + 10 + 0 + 0 ≤ 601024; omega, by show sl + 8000 + 0 + 0 ≤ 7293034; omega⟩ dL_law_1091 (fun r9 h9 w9 => ?_)
      obtain ⟨et, rfl⟩ := w9
      rw [ek2] at et; subst et
      refine v_iload C 1 rfl dL_law_1094 ?_
      refine v_icmp_eq (tgt := 1101) C dL_law_1096 (by decide) (fun c10 => ?_) (fun c10 => absurd c10 (by decide))
      refine v_iload C 1 rfl dL_law_1101 ?_
      refine v_if_ne (tgt := 1118) C dL_law_1103 (by decide) (fun c11 => absurd c11 (by decide)) (fun c11 => ?_)
      refine v_aload_n C 6 rfl dL_law_1106 rfl ?_
      refine v_iconst (v := 0) C dL_law_1107 (by decide) ?_
      refine v_lald C ho2 (show vp_in (0 : Int32) 1 from vpin (n := 0) (N := 1) (by decide) (by decide)) dL_law_1108 (v_eql (y := (Int32.toInt64 (nI (cnt (fun z => decide (¬ rL (nLimit sz p1 p2 p3) (cl p1) z = -1)) 20)))) hf ?_)
      refine v_iload C 0 rfl dL_law_1109 ?_
      refine v_i2l (v := (r8 : Int32).toInt64) C dL_law_1111 rfl ?_
      refine v_lcmp C dL_law_1112 ?_
      refine v_if_eq (tgt := 1118) C dL_law_1113 (by decide) (fun c12 => ?_) (fun c12 => absurd ((lgc_eq _ _).mpr (congrArg Int32.toInt64 er2).symm) c12)
      have c12 := (lgc_eq (Int32.toInt64 (nI (cnt (fun z => decide (¬ rL (nLimit sz p1 p2 p3) (cl p1) z = -1)) 20))) (Int32.toInt64 r8)).mp c12
      refine v_goto (tgt := 1797) C dL_law_1118 (by decide) ?_
      refine v_lvp [2, 3, 4, 5, 6] rfl ?_
      exact v_widen (by omega) (by omega) (kk _ _ _ _ li2)
    · exact absurd hk hn
  · obtain ⟨er, g2, lm⟩ := li.no w4 hk
    subst er
    have hk4 : (kLimit sz p1 p2 p3) < 4 := by unfold kLimit; (repeat' split) <;> decide
    refine v_istore C [(5, .int (nI (kLimit sz p1 p2 p3))), (4, .int (nI i)), (0, .ref sb), (1, .ref x), (2, .ref mm), (3, .ref o)] rfl (by decide) dL_law_1064 ?_
    refine v_aload_n C 4 rfl dL_law_1066 rfl ?_
    refine v_aload_n C 2 rfl dL_law_1067 rfl ?_
    refine v_iload C 1 rfl dL_law_1068 ?_
    refine v_iconst (v := 1) C dL_law_1070 (by decide) ?_
    refine v_iadd C dL_law_1071 (v_eqi (nI_adk i 1 (by decide)) ?_)
    refine v_sld C hX (vpin (show i + 1 < L by omega) (by omega)) dL_law_1072 (v_eqi (y := p1) e1 ?_)
    refine v_aload_n C 2 rfl dL_law_1073 rfl ?_
    refine v_iload C 1 rfl dL_law_1074 ?_
    refine v_iconst (v := 2) C dL_law_1076 (by decide) ?_
    refine v_iadd C dL_law_1077 (v_eqi (nI_adk i 2 (by decide)) ?_)
    refine v_sld C hX (vpin (show i + 2 < L by omega) (by omega)) dL_law_1078 (v_eqi (y := p2) e2 ?_)
    refine v_aload_n C 2 rfl dL_law_1079 rfl ?_
    refine v_iload C 1 rfl dL_law_1080 ?_
    refine v_iconst (v := 3) C dL_law_1082 (by decide) ?_
    refine v_iadd C dL_law_1083 (v_eqi (nI_adk i 3 (by decide)) ?_)
    refine v_sld C hX (vpin (show i + 3 < L by omega) (by omega)) dL_law_1084 (v_eqi (y := p3) e3 ?_)
    refine v_lt (fun B hB => ?_)
    obtain ⟨xi1, ⟨k1, mo1⟩, -⟩ := id lm
    obtain ⟨ns, na, ia, la, mr, ms, -⟩ := mo1.re hB
    refine v_callV (rest := []) C (c_X5_limit l hl G mm (adB ad B) ns na ia la h4 sz p1 p2 p3 h4 mr ms hw) K_L_160 mr.1 rfl rfl (Nat.le_of_ble_eq_true rfl) ⟨Nat.le_of_ble_eq_true rfl, Nat.le_of_ble_eq_true rfl⟩ ⟨by show cs + 10 + 0 ≤ 601024; omega, by show sl + 8000 + 0 ≤ 7293034; omega⟩ dL_law_1085 (fun r16 h16 w16 => ?_)
    rcases w16 with ⟨hn, -⟩ | ⟨-, mo⟩
    · exact absurd hn hk
    · obtain ⟨li2, -⟩ := lm.step hB hw mo
      refine v_istore C [(6, .int r16), (5, .int (nI (kLimit sz p1 p2 p3))), (4, .int (nI i)), (0, .ref sb), (1, .ref x), (2, .ref mm), (3, .ref o)] rfl (by decide) dL_law_1088 ?_
      refine v_aload_n C 5 rfl dL_law_1090 rfl ?_
      obtain ⟨ns2, na2, ia2, la2, mr2, ms2, ek2⟩ := id mo
      refine v_callV (rest := []) C (c_X5_thrown l hl G mm (adB ad B) ns2 na2 ia2 la2 _ h16 mr2) K_L_105 mr2.1 rfl rfl (Nat.le_of_ble_eq_true rfl) ⟨Nat.le_of_ble_eq_true rfl, Nat.le_of_ble_eq_true rfl⟩ ⟨by show cs + 10 + 0 + 0 ≤ 601024; omega, by show sl + 8000 + 0 + 0 ≤ 7293034; omega⟩ dL_law_1091 (fun r17 h17 w17 => ?_)
      obtain ⟨et, rfl⟩ := w17
      rw [ek2] at et; subst et
      refine v_iload C 1 rfl dL_law_1094 ?_
      refine v_icmp_eq (tgt := 1101) C dL_law_1096 (by decide) (fun c18 => ?_) (fun c18 => absurd (by rfl) c18)
      have c18 := (nn_eq (a := (kLimit sz p1 p2 p3)) (b := (kLimit sz p1 p2 p3)) (by omega) (by omega)).mp c18
      refine v_iload C 1 rfl dL_law_1101 ?_
      refine v_if_ne (tgt := 1118) C dL_law_1103 (by decide) (fun c19 => ?_) (fun c19 => absurd c19 (nI_nz4 hk hk4))
      have c19 := (nk_ne (a := (kLimit sz p1 p2 p3)) 0 (by decide) (by omega) (by decide)).mp c19
      refine v_goto (tgt := 1797) C dL_law_1118 (by decide) ?_
      refine v_lvp [2, 3, 4, 5, 6] rfl ?_
      exact v_widen (by omega) (by omega) (kk _ _ _ _ li2)
set_option maxHeartbeats 4000000 in
set_option maxRecDepth 100000 in
theorem law_wake {p : Program} {l : Launch} {e : Env} {s : State} {m : MethodId} {args : Array Value} {below : List Frame} {meth : Method} {c : Code} {G : zG} (hl : l.stackTraces = false) (C : zOK p l e room_1 s m args below meth c G cL_law 8 RL) (hNc : zNc s) {sb L : Nat} {xs : Nat → Int32} (hX : va_X sb L xs s s.heap ∧ sb < s.heap.size ∧ sb < gN G) (hL : L ≤ 2048) (i : Nat) (hiL : i + 4 ≤ L) (p1 p2 p3 : Int32) (e1 : xs (nI (i + 1)).toNatClampNeg = p1) (e2 : xs (nI (i + 2)).toNatClampNeg = p2) (e3 : xs (nI (i + 3)).toNatClampNeg = p3) {Q : State → Prop} {h : zH} {g : XGh} {x mm o : Nat} {ad : Nat → Nat} {sz : ZS} (li : LI G h g x mm o ad sz) (cs sl : Nat) (hcs : cs + 20 ≤ 601024) (hsl : sl + 9000 ≤ 7293034) (kk : ∀ (h2 : zH) (g2 : XGh) (ad2 : Nat → Nat) (s2 : ZS), LI G h2 g2 x mm o ad2 s2 → V p l e room_1 s m args below meth c G 8 Q h2 (cs + 20) (sl + 9000) 1797 [(4, .int (nI i)), (0, .ref sb), (1, .ref x), (2, .ref mm), (3, .ref o)] []) : V p l e room_1 s m args below meth c G 8 Q h cs sl 1121 [(4, .int (nI i)), (0, .ref sb), (1, .ref x), (2, .ref mm), (3, .ref o)] [] := by
  refine v_aload_n C 2 rfl dL_law_1121 rfl ?_
  refine v_aload_n C 1 rfl dL_law_1122 rfl ?_
  refine v_iload C 0 rfl dL_law_1123 ?_
  refine v_iconst (v := 1) C dL_law_1125 (by decide) ?_
  refine v_iadd C dL_law_1126 (v_eqi (nI_adk i 1 (by decide)) ?_)
  refine v_sld C hX (vpin (show i + 1 < L by omega) (by omega)) dL_law_1127 (v_eqi (y := p1) e1 ?_)
  refine v_aload_n C 1 rfl dL_law_1128 rfl ?_
  refine v_iload C 0 rfl dL_law_1129 ?_
  refine v_iconst (v := 2) C dL_law_1131 (by decide) ?_
  refine v_iadd C dL_law_1132 (v_eqi (nI_adk i 2 (by decide)) ?_)
  refine v_sld C hX (vpin (show i + 2 < L by omega) (by omega)) dL_law_1133 (v_eqi (y := p2) e2 ?_)
  refine v_aload_n C 1 rfl dL_law_1134 rfl ?_
  refine v_iload C 0 rfl dL_law_1135 ?_
  refine v_iconst (v := 3) C dL_law_1137 (by decide) ?_
  refine v_iadd C dL_law_1138 (v_eqi (nI_adk i 3 (by decide)) ?_)
  refine v_sld C hX (vpin (show i + 3 < L by omega) (by omega)) dL_law_1139 (v_eqi (y := p3) e3 ?_)
  refine v_aload_n C 4 rfl dL_law_1140 rfl ?_
  obtain ⟨xi0, hw, -, -, -, ⟨fo, ho⟩, hro⟩ := id li
  refine v_callL (rest := []) C hNc (c_L_wake l hl G x o g sz p1 p2 p3 fo h xi0 hw ho hro) CL_L_161 rfl rfl (Nat.le_of_ble_eq_true rfl) ⟨Nat.le_of_ble_eq_true rfl, Nat.le_of_ble_eq_true rfl⟩ ⟨by show cs + 10 ≤ 601024; omega, by show sl + 8000 ≤ 7293034; omega⟩ dL_law_1141 (fun r4 h4 w4 => ?_)
  by_cases hk : (kWake sz p1 p2 p3) = 0
  · obtain ⟨er, g2, lm⟩ := li.ok w4 hk
    subst er
    refine v_istore C [(5, .int 0), (4, .int (nI i)), (0, .ref sb), (1, .ref x), (2, .ref mm), (3, .ref o)] rfl (by decide) dL_law_1144 ?_
    refine v_aload_n C 4 rfl dL_law_1146 rfl ?_
    refine v_aload_n C 2 rfl dL_law_1147 rfl ?_
    refine v_iload C 1 rfl dL_law_1148 ?_
    refine v_iconst (v := 1) C dL_law_1150 (by decide) ?_
    refine v_iadd C dL_law_1151 (v_eqi (nI_adk i 1 (by decide)) ?_)
    refine v_sld C hX (vpin (show i + 1 < L by omega) (by omega)) dL_law_1152 (v_eqi (y := p1) e1 ?_)
    refine v_aload_n C 2 rfl dL_law_1153 rfl ?_
    refine v_iload C 1 rfl dL_law_1154 ?_
    refine v_iconst (v := 2) C dL_law_1156 (by decide) ?_
    refine v_iadd C dL_law_1157 (v_eqi (nI_adk i 2 (by decide)) ?_)
    refine v_sld C hX (vpin (show i + 2 < L by omega) (by omega)) dL_law_1158 (v_eqi (y := p2) e2 ?_)
    refine v_aload_n C 2 rfl dL_law_1159 rfl ?_
    refine v_iload C 1 rfl dL_law_1160 ?_
    refine v_iconst (v := 3) C dL_law_1162 (by decide) ?_
    refine v_iadd C dL_law_1163 (v_eqi (nI_adk i 3 (by decide)) ?_)
    refine v_sld C hX (vpin (show i + 3 < L by omega) (by omega)) dL_law_1164 (v_eqi (y := p3) e3 ?_)
    refine v_lt (fun B hB => ?_)
    obtain ⟨xi1, ⟨k1, mo1⟩, -⟩ := id lm
    obtain ⟨ns, na, ia, la, mr, ms, -⟩ := mo1.re hB
    refine v_callV (rest := []) C (c_X5_wake l hl G mm (adB ad B) ns na ia la h4 sz p1 p2 p3 h4 mr ms hw) K_L_163 mr.1 rfl rfl (Nat.le_of_ble_eq_true rfl) ⟨Nat.le_of_ble_eq_true rfl, Nat.le_of_ble_eq_true rfl⟩ ⟨by show cs + 10 + 0 ≤ 601024; omega, by show sl + 8000 + 0 ≤ 7293034; omega⟩ dL_law_1165 (fun r8 h8 w8 => ?_)
    rcases w8 with ⟨-, mo, er2⟩ | ⟨hn, -⟩
    · obtain ⟨li2, f, ho2, hf⟩ := lm.step hB (wf_wake hw hk) mo
      refine v_istore C [(6, .int r8), (5, .int 0), (4, .int (nI i)), (0, .ref sb), (1, .ref x), (2, .ref mm), (3, .ref o)] rfl (by decide) dL_law_1168 ?_
      refine v_aload_n C 5 rfl dL_law_1170 rfl ?_
      obtain ⟨ns2, na2, ia2, la2, mr2, ms2, ek2⟩ := id mo
      refine v_callV (rest := []) C (c_X5_thrown l hl G mm (adB ad B) ns2 na2 ia2 la2 _ h8 mr2) K_L_105 mr2.1 rfl rfl (Nat.le_of_ble_eq_true rfl) ⟨Nat.le_of_ble_eq_true rfl, Nat.le_of_ble_eq_true rfl⟩ ⟨by show cs + 10 + 0 + 0 ≤ 601024; omega, by show sl + 8000 + 0 + 0 ≤ 7293034; omega⟩ dL_law_1171 (fun r9 h9 w9 => ?_)
      obtain ⟨et, rfl⟩ := w9
      rw [ek2] at et; subst et
      refine v_iload C 1 rfl dL_law_1174 ?_
      refine v_icmp_eq (tgt := 1181) C dL_law_1176 (by decide) (fun c10 => ?_) (fun c10 => absurd c10 (by decide))
      refine v_iload C 1 rfl dL_law_1181 ?_
      refine v_if_ne (tgt := 1198) C dL_law_1183 (by decide) (fun c11 => absurd c11 (by decide)) (fun c11 => ?_)
      refine v_aload_n C 6 rfl dL_law_1186 rfl ?_
      refine v_iconst (v := 0) C dL_law_1187 (by decide) ?_
      refine v_lald C ho2 (show vp_in (0 : Int32) 1 from vpin (n := 0) (N := 1) (by decide) (by decide)) dL_law_1188 (v_eql (y := (Int32.toInt64 (rW sz (cl p1)))) hf ?_)
      refine v_iload C 0 rfl dL_law_1189 ?_
      refine v_i2l (v := (r8 : Int32).toInt64) C dL_law_1191 rfl ?_
      refine v_lcmp C dL_law_1192 ?_
      refine v_if_eq (tgt := 1198) C dL_law_1193 (by decide) (fun c12 => ?_) (fun c12 => absurd ((lgc_eq _ _).mpr (congrArg Int32.toInt64 er2).symm) c12)
      have c12 := (lgc_eq (Int32.toInt64 (rW sz (cl p1))) (Int32.toInt64 r8)).mp c12
      refine v_goto (tgt := 1797) C dL_law_1198 (by decide) ?_
      refine v_lvp [2, 3, 4, 5, 6] rfl ?_
      exact v_widen (by omega) (by omega) (kk _ _ _ _ li2)
    · exact absurd hk hn
  · obtain ⟨er, g2, lm⟩ := li.no w4 hk
    subst er
    have hk4 : (kWake sz p1 p2 p3) < 4 := by unfold kWake; (repeat' split) <;> decide
    refine v_istore C [(5, .int (nI (kWake sz p1 p2 p3))), (4, .int (nI i)), (0, .ref sb), (1, .ref x), (2, .ref mm), (3, .ref o)] rfl (by decide) dL_law_1144 ?_
    refine v_aload_n C 4 rfl dL_law_1146 rfl ?_
    refine v_aload_n C 2 rfl dL_law_1147 rfl ?_
    refine v_iload C 1 rfl dL_law_1148 ?_
    refine v_iconst (v := 1) C dL_law_1150 (by decide) ?_
    refine v_iadd C dL_law_1151 (v_eqi (nI_adk i 1 (by decide)) ?_)
    refine v_sld C hX (vpin (show i + 1 < L by omega) (by omega)) dL_law_1152 (v_eqi (y := p1) e1 ?_)
    refine v_aload_n C 2 rfl dL_law_1153 rfl ?_
    refine v_iload C 1 rfl dL_law_1154 ?_
    refine v_iconst (v := 2) C dL_law_1156 (by decide) ?_
    refine v_iadd C dL_law_1157 (v_eqi (nI_adk i 2 (by decide)) ?_)
    refine v_sld C hX (vpin (show i + 2 < L by omega) (by omega)) dL_law_1158 (v_eqi (y := p2) e2 ?_)
    refine v_aload_n C 2 rfl dL_law_1159 rfl ?_
    refine v_iload C 1 rfl dL_law_1160 ?_
    refine v_iconst (v := 3) C dL_law_1162 (by decide) ?_
    refine v_iadd C dL_law_1163 (v_eqi (nI_adk i 3 (by decide)) ?_)
    refine v_sld C hX (vpin (show i + 3 < L by omega) (by omega)) dL_law_1164 (v_eqi (y := p3) e3 ?_)
    refine v_lt (fun B hB => ?_)
    obtain ⟨xi1, ⟨k1, mo1⟩, -⟩ := id lm
    obtain ⟨ns, na, ia, la, mr, ms, -⟩ := mo1.re hB
    refine v_callV (rest := []) C (c_X5_wake l hl G mm (adB ad B) ns na ia la h4 sz p1 p2 p3 h4 mr ms hw) K_L_163 mr.1 rfl rfl (Nat.le_of_ble_eq_true rfl) ⟨Nat.le_of_ble_eq_true rfl, Nat.le_of_ble_eq_true rfl⟩ ⟨by show cs + 10 + 0 ≤ 601024; omega, by show sl + 8000 + 0 ≤ 7293034; omega⟩ dL_law_1165 (fun r16 h16 w16 => ?_)
    rcases w16 with ⟨hn, -⟩ | ⟨-, mo⟩
    · exact absurd hn hk
    · obtain ⟨li2, -⟩ := lm.step hB hw mo
      refine v_istore C [(6, .int r16), (5, .int (nI (kWake sz p1 p2 p3))), (4, .int (nI i)), (0, .ref sb), (1, .ref x), (2, .ref mm), (3, .ref o)] rfl (by decide) dL_law_1168 ?_
      refine v_aload_n C 5 rfl dL_law_1170 rfl ?_
      obtain ⟨ns2, na2, ia2, la2, mr2, ms2, ek2⟩ := id mo
      refine v_callV (rest := []) C (c_X5_thrown l hl G mm (adB ad B) ns2 na2 ia2 la2 _ h16 mr2) K_L_105 mr2.1 rfl rfl (Nat.le_of_ble_eq_true rfl) ⟨Nat.le_of_ble_eq_true rfl, Nat.le_of_ble_eq_true rfl⟩ ⟨by show cs + 10 + 0 + 0 ≤ 601024; omega, by show sl + 8000 + 0 + 0 ≤ 7293034; omega⟩ dL_law_1171 (fun r17 h17 w17 => ?_)
      obtain ⟨et, rfl⟩ := w17
      rw [ek2] at et; subst et
      refine v_iload C 1 rfl dL_law_1174 ?_
      refine v_icmp_eq (tgt := 1181) C dL_law_1176 (by decide) (fun c18 => ?_) (fun c18 => absurd (by rfl) c18)
      have c18 := (nn_eq (a := (kWake sz p1 p2 p3)) (b := (kWake sz p1 p2 p3)) (by omega) (by omega)).mp c18
      refine v_iload C 1 rfl dL_law_1181 ?_
      refine v_if_ne (tgt := 1198) C dL_law_1183 (by decide) (fun c19 => ?_) (fun c19 => absurd c19 (nI_nz4 hk hk4))
      have c19 := (nk_ne (a := (kWake sz p1 p2 p3)) 0 (by decide) (by omega) (by decide)).mp c19
      refine v_goto (tgt := 1797) C dL_law_1198 (by decide) ?_
      refine v_lvp [2, 3, 4, 5, 6] rfl ?_
      exact v_widen (by omega) (by omega) (kk _ _ _ _ li2)
set_option maxHeartbeats 4000000 in
set_option maxRecDepth 100000 in
theorem law_cure {p : Program} {l : Launch} {e : Env} {s : State} {m : MethodId} {args : Array Value} {below : List Frame} {meth : Method} {c : Code} {G : zG} (hl : l.stackTraces = false) (C : zOK p l e room_1 s m args below meth c G cL_law 8 RL) (hNc : zNc s) {sb L : Nat} {xs : Nat → Int32} (hX : va_X sb L xs s s.heap ∧ sb < s.heap.size ∧ sb < gN G) (hL : L ≤ 2048) (i : Nat) (hiL : i + 4 ≤ L) (p1 p2 p3 : Int32) (e1 : xs (nI (i + 1)).toNatClampNeg = p1) (e2 : xs (nI (i + 2)).toNatClampNeg = p2) (e3 : xs (nI (i + 3)).toNatClampNeg = p3) {Q : State → Prop} {h : zH} {g : XGh} {x mm o : Nat} {ad : Nat → Nat} {sz : ZS} (li : LI G h g x mm o ad sz) (cs sl : Nat) (hcs : cs + 20 ≤ 601024) (hsl : sl + 9000 ≤ 7293034) (kk : ∀ (h2 : zH) (g2 : XGh) (ad2 : Nat → Nat) (s2 : ZS), LI G h2 g2 x mm o ad2 s2 → V p l e room_1 s m args below meth c G 8 Q h2 (cs + 20) (sl + 9000) 1797 [(4, .int (nI i)), (0, .ref sb), (1, .ref x), (2, .ref mm), (3, .ref o)] []) : V p l e room_1 s m args below meth c G 8 Q h cs sl 1201 [(4, .int (nI i)), (0, .ref sb), (1, .ref x), (2, .ref mm), (3, .ref o)] [] := by
  refine v_aload_n C 2 rfl dL_law_1201 rfl ?_
  refine v_aload_n C 1 rfl dL_law_1202 rfl ?_
  refine v_iload C 0 rfl dL_law_1203 ?_
  refine v_iconst (v := 1) C dL_law_1205 (by decide) ?_
  refine v_iadd C dL_law_1206 (v_eqi (nI_adk i 1 (by decide)) ?_)
  refine v_sld C hX (vpin (show i + 1 < L by omega) (by omega)) dL_law_1207 (v_eqi (y := p1) e1 ?_)
  refine v_aload_n C 1 rfl dL_law_1208 rfl ?_
  refine v_iload C 0 rfl dL_law_1209 ?_
  refine v_iconst (v := 2) C dL_law_1211 (by decide) ?_
  refine v_iadd C dL_law_1212 (v_eqi (nI_adk i 2 (by decide)) ?_)
  refine v_sld C hX (vpin (show i + 2 < L by omega) (by omega)) dL_law_1213 (v_eqi (y := p2) e2 ?_)
  refine v_aload_n C 1 rfl dL_law_1214 rfl ?_
  refine v_iload C 0 rfl dL_law_1215 ?_
  refine v_iconst (v := 3) C dL_law_1217 (by decide) ?_
  refine v_iadd C dL_law_1218 (v_eqi (nI_adk i 3 (by decide)) ?_)
  refine v_sld C hX (vpin (show i + 3 < L by omega) (by omega)) dL_law_1219 (v_eqi (y := p3) e3 ?_)
  refine v_aload_n C 4 rfl dL_law_1220 rfl ?_
  obtain ⟨xi0, hw, -, -, -, ⟨fo, ho⟩, hro⟩ := id li
  refine v_callL (rest := []) C hNc (c_L_cure l hl G x o g sz p1 p2 p3 fo h xi0 hw ho hro) CL_L_164 rfl rfl (Nat.le_of_ble_eq_true rfl) ⟨Nat.le_of_ble_eq_true rfl, Nat.le_of_ble_eq_true rfl⟩ ⟨by show cs + 10 ≤ 601024; omega, by show sl + 8000 ≤ 7293034; omega⟩ dL_law_1221 (fun r4 h4 w4 => ?_)
  by_cases hk : (kCure sz p1 p2 p3) = 0
  · obtain ⟨er, g2, lm⟩ := li.ok w4 hk
    subst er
    refine v_istore C [(5, .int 0), (4, .int (nI i)), (0, .ref sb), (1, .ref x), (2, .ref mm), (3, .ref o)] rfl (by decide) dL_law_1224 ?_
    refine v_aload_n C 4 rfl dL_law_1226 rfl ?_
    refine v_aload_n C 2 rfl dL_law_1227 rfl ?_
    refine v_iload C 1 rfl dL_law_1228 ?_
    refine v_iconst (v := 1) C dL_law_1230 (by decide) ?_
    refine v_iadd C dL_law_1231 (v_eqi (nI_adk i 1 (by decide)) ?_)
    refine v_sld C hX (vpin (show i + 1 < L by omega) (by omega)) dL_law_1232 (v_eqi (y := p1) e1 ?_)
    refine v_aload_n C 2 rfl dL_law_1233 rfl ?_
    refine v_iload C 1 rfl dL_law_1234 ?_
    refine v_iconst (v := 2) C dL_law_1236 (by decide) ?_
    refine v_iadd C dL_law_1237 (v_eqi (nI_adk i 2 (by decide)) ?_)
    refine v_sld C hX (vpin (show i + 2 < L by omega) (by omega)) dL_law_1238 (v_eqi (y := p2) e2 ?_)
    refine v_aload_n C 2 rfl dL_law_1239 rfl ?_
    refine v_iload C 1 rfl dL_law_1240 ?_
    refine v_iconst (v := 3) C dL_law_1242 (by decide) ?_
    refine v_iadd C dL_law_1243 (v_eqi (nI_adk i 3 (by decide)) ?_)
    refine v_sld C hX (vpin (show i + 3 < L by omega) (by omega)) dL_law_1244 (v_eqi (y := p3) e3 ?_)
    refine v_lt (fun B hB => ?_)
    obtain ⟨xi1, ⟨k1, mo1⟩, -⟩ := id lm
    obtain ⟨ns, na, ia, la, mr, ms, -⟩ := mo1.re hB
    refine v_callV (rest := []) C (c_X5_cure l hl G mm (adB ad B) ns na ia la h4 sz p1 p2 p3 h4 mr ms hw) K_L_166 mr.1 rfl rfl (Nat.le_of_ble_eq_true rfl) ⟨Nat.le_of_ble_eq_true rfl, Nat.le_of_ble_eq_true rfl⟩ ⟨by show cs + 10 + 0 ≤ 601024; omega, by show sl + 8000 + 0 ≤ 7293034; omega⟩ dL_law_1245 (fun r8 h8 w8 => ?_)
    rcases w8 with ⟨-, mo, er2⟩ | ⟨hn, -⟩
    · obtain ⟨li2, f, ho2, hf⟩ := lm.step hB (wf_cure hw hk) mo
      refine v_istore C [(6, .int r8), (5, .int 0), (4, .int (nI i)), (0, .ref sb), (1, .ref x), (2, .ref mm), (3, .ref o)] rfl (by decide) dL_law_1248 ?_
      refine v_aload_n C 5 rfl dL_law_1250 rfl ?_
      obtain ⟨ns2, na2, ia2, la2, mr2, ms2, ek2⟩ := id mo
      refine v_callV (rest := []) C (c_X5_thrown l hl G mm (adB ad B) ns2 na2 ia2 la2 _ h8 mr2) K_L_105 mr2.1 rfl rfl (Nat.le_of_ble_eq_true rfl) ⟨Nat.le_of_ble_eq_true rfl, Nat.le_of_ble_eq_true rfl⟩ ⟨by show cs + 10 + 0 + 0 ≤ 601024; omega, by show sl + 8000 + 0 + 0 ≤ 7293034; omega⟩ dL_law_1251 (fun r9 h9 w9 => ?_)
      obtain ⟨et, rfl⟩ := w9
      rw [ek2] at et; subst et
      refine v_iload C 1 rfl dL_law_1254 ?_
      refine v_icmp_eq (tgt := 1261) C dL_law_1256 (by decide) (fun c10 => ?_) (fun c10 => absurd c10 (by decide))
      refine v_iload C 1 rfl dL_law_1261 ?_
      refine v_if_ne (tgt := 1278) C dL_law_1263 (by decide) (fun c11 => absurd c11 (by decide)) (fun c11 => ?_)
      refine v_aload_n C 6 rfl dL_law_1266 rfl ?_
      refine v_iconst (v := 0) C dL_law_1267 (by decide) ?_
      refine v_lald C ho2 (show vp_in (0 : Int32) 1 from vpin (n := 0) (N := 1) (by decide) (by decide)) dL_law_1268 (v_eql (y := (Int32.toInt64 (nI (cnt (fun z => decide (¬ rC (nCure sz p1 p2 p3) (cl p1) z = 0)) 20)))) hf ?_)
      refine v_iload C 0 rfl dL_law_1269 ?_
      refine v_i2l (v := (r8 : Int32).toInt64) C dL_law_1271 rfl ?_
      refine v_lcmp C dL_law_1272 ?_
      refine v_if_eq (tgt := 1278) C dL_law_1273 (by decide) (fun c12 => ?_) (fun c12 => absurd ((lgc_eq _ _).mpr (congrArg Int32.toInt64 er2).symm) c12)
      have c12 := (lgc_eq (Int32.toInt64 (nI (cnt (fun z => decide (¬ rC (nCure sz p1 p2 p3) (cl p1) z = 0)) 20))) (Int32.toInt64 r8)).mp c12
      refine v_goto (tgt := 1797) C dL_law_1278 (by decide) ?_
      refine v_lvp [2, 3, 4, 5, 6] rfl ?_
      exact v_widen (by omega) (by omega) (kk _ _ _ _ li2)
    · exact absurd hk hn
  · obtain ⟨er, g2, lm⟩ := li.no w4 hk
    subst er
    have hk4 : (kCure sz p1 p2 p3) < 4 := by unfold kCure; (repeat' split) <;> decide
    refine v_istore C [(5, .int (nI (kCure sz p1 p2 p3))), (4, .int (nI i)), (0, .ref sb), (1, .ref x), (2, .ref mm), (3, .ref o)] rfl (by decide) dL_law_1224 ?_
    refine v_aload_n C 4 rfl dL_law_1226 rfl ?_
    refine v_aload_n C 2 rfl dL_law_1227 rfl ?_
    refine v_iload C 1 rfl dL_law_1228 ?_
    refine v_iconst (v := 1) C dL_law_1230 (by decide) ?_
    refine v_iadd C dL_law_1231 (v_eqi (nI_adk i 1 (by decide)) ?_)
    refine v_sld C hX (vpin (show i + 1 < L by omega) (by omega)) dL_law_1232 (v_eqi (y := p1) e1 ?_)
    refine v_aload_n C 2 rfl dL_law_1233 rfl ?_
    refine v_iload C 1 rfl dL_law_1234 ?_
    refine v_iconst (v := 2) C dL_law_1236 (by decide) ?_
    refine v_iadd C dL_law_1237 (v_eqi (nI_adk i 2 (by decide)) ?_)
    refine v_sld C hX (vpin (show i + 2 < L by omega) (by omega)) dL_law_1238 (v_eqi (y := p2) e2 ?_)
    refine v_aload_n C 2 rfl dL_law_1239 rfl ?_
    refine v_iload C 1 rfl dL_law_1240 ?_
    refine v_iconst (v := 3) C dL_law_1242 (by decide) ?_
    refine v_iadd C dL_law_1243 (v_eqi (nI_adk i 3 (by decide)) ?_)
    refine v_sld C hX (vpin (show i + 3 < L by omega) (by omega)) dL_law_1244 (v_eqi (y := p3) e3 ?_)
    refine v_lt (fun B hB => ?_)
    obtain ⟨xi1, ⟨k1, mo1⟩, -⟩ := id lm
    obtain ⟨ns, na, ia, la, mr, ms, -⟩ := mo1.re hB
    refine v_callV (rest := []) C (c_X5_cure l hl G mm (adB ad B) ns na ia la h4 sz p1 p2 p3 h4 mr ms hw) K_L_166 mr.1 rfl rfl (Nat.le_of_ble_eq_true rfl) ⟨Nat.le_of_ble_eq_true rfl, Nat.le_of_ble_eq_true rfl⟩ ⟨by show cs + 10 + 0 ≤ 601024; omega, by show sl + 8000 + 0 ≤ 7293034; omega⟩ dL_law_1245 (fun r16 h16 w16 => ?_)
    rcases w16 with ⟨hn, -⟩ | ⟨-, mo⟩
    · exact absurd hn hk
    · obtain ⟨li2, -⟩ := lm.step hB hw mo
      refine v_istore C [(6, .int r16), (5, .int (nI (kCure sz p1 p2 p3))), (4, .int (nI i)), (0, .ref sb), (1, .ref x), (2, .ref mm), (3, .ref o)] rfl (by decide) dL_law_1248 ?_
      refine v_aload_n C 5 rfl dL_law_1250 rfl ?_
      obtain ⟨ns2, na2, ia2, la2, mr2, ms2, ek2⟩ := id mo
      refine v_callV (rest := []) C (c_X5_thrown l hl G mm (adB ad B) ns2 na2 ia2 la2 _ h16 mr2) K_L_105 mr2.1 rfl rfl (Nat.le_of_ble_eq_true rfl) ⟨Nat.le_of_ble_eq_true rfl, Nat.le_of_ble_eq_true rfl⟩ ⟨by show cs + 10 + 0 + 0 ≤ 601024; omega, by show sl + 8000 + 0 + 0 ≤ 7293034; omega⟩ dL_law_1251 (fun r17 h17 w17 => ?_)
      obtain ⟨et, rfl⟩ := w17
      rw [ek2] at et; subst et
      refine v_iload C 1 rfl dL_law_1254 ?_
      refine v_icmp_eq (tgt := 1261) C dL_law_1256 (by decide) (fun c18 => ?_) (fun c18 => absurd (by rfl) c18)
      have c18 := (nn_eq (a := (kCure sz p1 p2 p3)) (b := (kCure sz p1 p2 p3)) (by omega) (by omega)).mp c18
      refine v_iload C 1 rfl dL_law_1261 ?_
      refine v_if_ne (tgt := 1278) C dL_law_1263 (by decide) (fun c19 => ?_) (fun c19 => absurd c19 (nI_nz4 hk hk4))
      have c19 := (nk_ne (a := (kCure sz p1 p2 p3)) 0 (by decide) (by omega) (by decide)).mp c19
      refine v_goto (tgt := 1797) C dL_law_1278 (by decide) ?_
      refine v_lvp [2, 3, 4, 5, 6] rfl ?_
      exact v_widen (by omega) (by omega) (kk _ _ _ _ li2)
set_option maxHeartbeats 4000000 in
set_option maxRecDepth 100000 in
theorem law_waive {p : Program} {l : Launch} {e : Env} {s : State} {m : MethodId} {args : Array Value} {below : List Frame} {meth : Method} {c : Code} {G : zG} (hl : l.stackTraces = false) (C : zOK p l e room_1 s m args below meth c G cL_law 8 RL) (hNc : zNc s) {sb L : Nat} {xs : Nat → Int32} (hX : va_X sb L xs s s.heap ∧ sb < s.heap.size ∧ sb < gN G) (hL : L ≤ 2048) (i : Nat) (hiL : i + 4 ≤ L) (p1 p2 p3 : Int32) (e1 : xs (nI (i + 1)).toNatClampNeg = p1) (e2 : xs (nI (i + 2)).toNatClampNeg = p2) (e3 : xs (nI (i + 3)).toNatClampNeg = p3) {Q : State → Prop} {h : zH} {g : XGh} {x mm o : Nat} {ad : Nat → Nat} {sz : ZS} (li : LI G h g x mm o ad sz) (cs sl : Nat) (hcs : cs + 20 ≤ 601024) (hsl : sl + 9000 ≤ 7293034) (kk : ∀ (h2 : zH) (g2 : XGh) (ad2 : Nat → Nat) (s2 : ZS), LI G h2 g2 x mm o ad2 s2 → V p l e room_1 s m args below meth c G 8 Q h2 (cs + 20) (sl + 9000) 1797 [(4, .int (nI i)), (0, .ref sb), (1, .ref x), (2, .ref mm), (3, .ref o)] []) : V p l e room_1 s m args below meth c G 8 Q h cs sl 1281 [(4, .int (nI i)), (0, .ref sb), (1, .ref x), (2, .ref mm), (3, .ref o)] [] := by
  refine v_aload_n C 2 rfl dL_law_1281 rfl ?_
  refine v_aload_n C 1 rfl dL_law_1282 rfl ?_
  refine v_iload C 0 rfl dL_law_1283 ?_
  refine v_iconst (v := 1) C dL_law_1285 (by decide) ?_
  refine v_iadd C dL_law_1286 (v_eqi (nI_adk i 1 (by decide)) ?_)
  refine v_sld C hX (vpin (show i + 1 < L by omega) (by omega)) dL_law_1287 (v_eqi (y := p1) e1 ?_)
  refine v_aload_n C 1 rfl dL_law_1288 rfl ?_
  refine v_iload C 0 rfl dL_law_1289 ?_
  refine v_iconst (v := 2) C dL_law_1291 (by decide) ?_
  refine v_iadd C dL_law_1292 (v_eqi (nI_adk i 2 (by decide)) ?_)
  refine v_sld C hX (vpin (show i + 2 < L by omega) (by omega)) dL_law_1293 (v_eqi (y := p2) e2 ?_)
  refine v_aload_n C 4 rfl dL_law_1294 rfl ?_
  obtain ⟨xi0, hw, -, -, -, ⟨fo, ho⟩, hro⟩ := id li
  refine v_callL (rest := []) C hNc (c_L_waive l hl G x o g sz p1 p2 fo h xi0 hw ho hro) CL_L_167 rfl rfl (Nat.le_of_ble_eq_true rfl) ⟨Nat.le_of_ble_eq_true rfl, Nat.le_of_ble_eq_true rfl⟩ ⟨by show cs + 10 ≤ 601024; omega, by show sl + 8000 ≤ 7293034; omega⟩ dL_law_1295 (fun r3 h3 w3 => ?_)
  by_cases hk : (kIsRQ sz p1 p2) = 0
  · obtain ⟨er, g2, lm⟩ := li.ok w3 hk
    subst er
    refine v_istore C [(5, .int 0), (4, .int (nI i)), (0, .ref sb), (1, .ref x), (2, .ref mm), (3, .ref o)] rfl (by decide) dL_law_1298 ?_
    refine v_aload_n C 4 rfl dL_law_1300 rfl ?_
    refine v_aload_n C 2 rfl dL_law_1301 rfl ?_
    refine v_iload C 1 rfl dL_law_1302 ?_
    refine v_iconst (v := 1) C dL_law_1304 (by decide) ?_
    refine v_iadd C dL_law_1305 (v_eqi (nI_adk i 1 (by decide)) ?_)
    refine v_sld C hX (vpin (show i + 1 < L by omega) (by omega)) dL_law_1306 (v_eqi (y := p1) e1 ?_)
    refine v_aload_n C 2 rfl dL_law_1307 rfl ?_
    refine v_iload C 1 rfl dL_law_1308 ?_
    refine v_iconst (v := 2) C dL_law_1310 (by decide) ?_
    refine v_iadd C dL_law_1311 (v_eqi (nI_adk i 2 (by decide)) ?_)
    refine v_sld C hX (vpin (show i + 2 < L by omega) (by omega)) dL_law_1312 (v_eqi (y := p2) e2 ?_)
    refine v_lt (fun B hB => ?_)
    obtain ⟨xi1, ⟨k1, mo1⟩, -⟩ := id lm
    obtain ⟨ns, na, ia, la, mr, ms, -⟩ := mo1.re hB
    refine v_callV (rest := []) C (c_X5_waive l hl G mm (adB ad B) ns na ia la h3 sz p1 p2 h3 mr ms hw) K_L_169 mr.1 rfl rfl (Nat.le_of_ble_eq_true rfl) ⟨Nat.le_of_ble_eq_true rfl, Nat.le_of_ble_eq_true rfl⟩ ⟨by show cs + 10 + 0 ≤ 601024; omega, by show sl + 8000 + 0 ≤ 7293034; omega⟩ dL_law_1313 (fun r6 h6 w6 => ?_)
    rcases w6 with ⟨-, mo, er2⟩ | ⟨hn, -⟩
    · obtain ⟨li2, f, ho2, hf⟩ := lm.step hB (wf_waive hw hk) mo
      refine v_istore C [(6, .int r6), (5, .int 0), (4, .int (nI i)), (0, .ref sb), (1, .ref x), (2, .ref mm), (3, .ref o)] rfl (by decide) dL_law_1316 ?_
      refine v_aload_n C 5 rfl dL_law_1318 rfl ?_
      obtain ⟨ns2, na2, ia2, la2, mr2, ms2, ek2⟩ := id mo
      refine v_callV (rest := []) C (c_X5_thrown l hl G mm (adB ad B) ns2 na2 ia2 la2 _ h6 mr2) K_L_105 mr2.1 rfl rfl (Nat.le_of_ble_eq_true rfl) ⟨Nat.le_of_ble_eq_true rfl, Nat.le_of_ble_eq_true rfl⟩ ⟨by show cs + 10 + 0 + 0 ≤ 601024; omega, by show sl + 8000 + 0 + 0 ≤ 7293034; omega⟩ dL_law_1319 (fun r7 h7 w7 => ?_)
      obtain ⟨et, rfl⟩ := w7
      rw [ek2] at et; subst et
      refine v_iload C 1 rfl dL_law_1322 ?_
      refine v_icmp_eq (tgt := 1329) C dL_law_1324 (by decide) (fun c8 => ?_) (fun c8 => absurd c8 (by decide))
      refine v_iload C 1 rfl dL_law_1329 ?_
      refine v_if_ne (tgt := 1353) C dL_law_1331 (by decide) (fun c9 => absurd c9 (by decide)) (fun c9 => ?_)
      refine v_aload_n C 6 rfl dL_law_1334 rfl ?_
      refine v_iconst (v := 0) C dL_law_1335 (by decide) ?_
      refine v_lald C ho2 (show vp_in (0 : Int32) 1 from vpin (n := 0) (N := 1) (by decide) (by decide)) dL_law_1336 (v_eql (y := (Int32.toInt64 (b01 (!(rV sz (cl p1) (cl p2)))))) hf ?_)
      refine v_iload C 0 rfl dL_law_1337 ?_
      refine v_if_eq (tgt := 1346) C dL_law_1339 (by decide) (fun c10 => ?_) (fun c10 => ?_)
      · have hwv : (Int32.toInt64 (b01 (!(rV sz (cl p1) (cl p2))))) = 0 := by cases hq : (!(rV sz (cl p1) (cl p2))) with
            | false => rfl
            | true => rw [er2, hq] at c10; exact absurd c10 (by decide)
        refine v_lconst (v := 0) C dL_law_1346 (by decide) ?_
        refine v_lcmp C dL_law_1347 ?_
        refine v_if_eq (tgt := 1353) C dL_law_1348 (by decide) (fun c11 => ?_) (fun c11 => absurd ((lgc_eq _ _).mpr hwv) c11)
        have c11 := (lgc_eq (Int32.toInt64 (b01 (!(rV sz (cl p1) (cl p2))))) 0).mp c11
        refine v_goto (tgt := 1797) C dL_law_1353 (by decide) ?_
        refine v_lvp [2, 3, 4, 5, 6] rfl ?_
        exact v_widen (by omega) (by omega) (kk _ _ _ _ li2)
      · have hwv : (Int32.toInt64 (b01 (!(rV sz (cl p1) (cl p2))))) = 1 := by cases hq : (!(rV sz (cl p1) (cl p2))) with
            | true => rfl
            | false => rw [er2, hq] at c10; exact absurd rfl c10
        refine v_lconst (v := 1) C dL_law_1342 (by decide) ?_
        refine v_goto (tgt := 1347) C dL_law_1343 (by decide) ?_
        refine v_lcmp C dL_law_1347 ?_
        refine v_if_eq (tgt := 1353) C dL_law_1348 (by decide) (fun c12 => ?_) (fun c12 => absurd ((lgc_eq _ _).mpr hwv) c12)
        have c12 := (lgc_eq (Int32.toInt64 (b01 (!(rV sz (cl p1) (cl p2))))) 1).mp c12
        refine v_goto (tgt := 1797) C dL_law_1353 (by decide) ?_
        refine v_lvp [2, 3, 4, 5, 6] rfl ?_
        exact v_widen (by omega) (by omega) (kk _ _ _ _ li2)
    · exact absurd hk hn
  · obtain ⟨er, g2, lm⟩ := li.no w3 hk
    subst er
    have hk4 : (kIsRQ sz p1 p2) < 4 := by unfold kIsRQ; (repeat' split) <;> decide
    refine v_istore C [(5, .int (nI (kIsRQ sz p1 p2))), (4, .int (nI i)), (0, .ref sb), (1, .ref x), (2, .ref mm), (3, .ref o)] rfl (by decide) dL_law_1298 ?_
    refine v_aload_n C 4 rfl dL_law_1300 rfl ?_
    refine v_aload_n C 2 rfl dL_law_1301 rfl ?_
    refine v_iload C 1 rfl dL_law_1302 ?_
    refine v_iconst (v := 1) C dL_law_1304 (by decide) ?_
    refine v_iadd C dL_law_1305 (v_eqi (nI_adk i 1 (by decide)) ?_)
    refine v_sld C hX (vpin (show i + 1 < L by omega) (by omega)) dL_law_1306 (v_eqi (y := p1) e1 ?_)
    refine v_aload_n C 2 rfl dL_law_1307 rfl ?_
    refine v_iload C 1 rfl dL_law_1308 ?_
    refine v_iconst (v := 2) C dL_law_1310 (by decide) ?_
    refine v_iadd C dL_law_1311 (v_eqi (nI_adk i 2 (by decide)) ?_)
    refine v_sld C hX (vpin (show i + 2 < L by omega) (by omega)) dL_law_1312 (v_eqi (y := p2) e2 ?_)
    refine v_lt (fun B hB => ?_)
    obtain ⟨xi1, ⟨k1, mo1⟩, -⟩ := id lm
    obtain ⟨ns, na, ia, la, mr, ms, -⟩ := mo1.re hB
    refine v_callV (rest := []) C (c_X5_waive l hl G mm (adB ad B) ns na ia la h3 sz p1 p2 h3 mr ms hw) K_L_169 mr.1 rfl rfl (Nat.le_of_ble_eq_true rfl) ⟨Nat.le_of_ble_eq_true rfl, Nat.le_of_ble_eq_true rfl⟩ ⟨by show cs + 10 + 0 ≤ 601024; omega, by show sl + 8000 + 0 ≤ 7293034; omega⟩ dL_law_1313 (fun r15 h15 w15 => ?_)
    rcases w15 with ⟨hn, -⟩ | ⟨-, mo⟩
    · exact absurd hn hk
    · obtain ⟨li2, -⟩ := lm.step hB hw mo
      refine v_istore C [(6, .int r15), (5, .int (nI (kIsRQ sz p1 p2))), (4, .int (nI i)), (0, .ref sb), (1, .ref x), (2, .ref mm), (3, .ref o)] rfl (by decide) dL_law_1316 ?_
      refine v_aload_n C 5 rfl dL_law_1318 rfl ?_
      obtain ⟨ns2, na2, ia2, la2, mr2, ms2, ek2⟩ := id mo
      refine v_callV (rest := []) C (c_X5_thrown l hl G mm (adB ad B) ns2 na2 ia2 la2 _ h15 mr2) K_L_105 mr2.1 rfl rfl (Nat.le_of_ble_eq_true rfl) ⟨Nat.le_of_ble_eq_true rfl, Nat.le_of_ble_eq_true rfl⟩ ⟨by show cs + 10 + 0 + 0 ≤ 601024; omega, by show sl + 8000 + 0 + 0 ≤ 7293034; omega⟩ dL_law_1319 (fun r16 h16 w16 => ?_)
      obtain ⟨et, rfl⟩ := w16
      rw [ek2] at et; subst et
      refine v_iload C 1 rfl dL_law_1322 ?_
      refine v_icmp_eq (tgt := 1329) C dL_law_1324 (by decide) (fun c17 => ?_) (fun c17 => absurd (by rfl) c17)
      have c17 := (nn_eq (a := (kIsRQ sz p1 p2)) (b := (kIsRQ sz p1 p2)) (by omega) (by omega)).mp c17
      refine v_iload C 1 rfl dL_law_1329 ?_
      refine v_if_ne (tgt := 1353) C dL_law_1331 (by decide) (fun c18 => ?_) (fun c18 => absurd c18 (nI_nz4 hk hk4))
      have c18 := (nk_ne (a := (kIsRQ sz p1 p2)) 0 (by decide) (by omega) (by decide)).mp c18
      refine v_goto (tgt := 1797) C dL_law_1353 (by decide) ?_
      refine v_lvp [2, 3, 4, 5, 6] rfl ?_
      exact v_widen (by omega) (by omega) (kk _ _ _ _ li2)
set_option maxHeartbeats 4000000 in
set_option maxRecDepth 100000 in
theorem law_state {p : Program} {l : Launch} {e : Env} {s : State} {m : MethodId} {args : Array Value} {below : List Frame} {meth : Method} {c : Code} {G : zG} (hl : l.stackTraces = false) (C : zOK p l e room_1 s m args below meth c G cL_law 8 RL) (hNc : zNc s) {sb L : Nat} {xs : Nat → Int32} (hX : va_X sb L xs s s.heap ∧ sb < s.heap.size ∧ sb < gN G) (hL : L ≤ 2048) (i : Nat) (hiL : i + 4 ≤ L) (p1 p2 p3 : Int32) (e1 : xs (nI (i + 1)).toNatClampNeg = p1) (e2 : xs (nI (i + 2)).toNatClampNeg = p2) (e3 : xs (nI (i + 3)).toNatClampNeg = p3) {Q : State → Prop} {h : zH} {g : XGh} {x mm o : Nat} {ad : Nat → Nat} {sz : ZS} (li : LI G h g x mm o ad sz) (cs sl : Nat) (hcs : cs + 20 ≤ 601024) (hsl : sl + 9000 ≤ 7293034) (kk : ∀ (h2 : zH) (g2 : XGh) (ad2 : Nat → Nat) (s2 : ZS), LI G h2 g2 x mm o ad2 s2 → V p l e room_1 s m args below meth c G 8 Q h2 (cs + 20) (sl + 9000) 1797 [(4, .int (nI i)), (0, .ref sb), (1, .ref x), (2, .ref mm), (3, .ref o)] []) : V p l e room_1 s m args below meth c G 8 Q h cs sl 1356 [(4, .int (nI i)), (0, .ref sb), (1, .ref x), (2, .ref mm), (3, .ref o)] [] := by
  refine v_aload_n C 2 rfl dL_law_1356 rfl ?_
  refine v_aload_n C 1 rfl dL_law_1357 rfl ?_
  refine v_iload C 0 rfl dL_law_1358 ?_
  refine v_iconst (v := 1) C dL_law_1360 (by decide) ?_
  refine v_iadd C dL_law_1361 (v_eqi (nI_adk i 1 (by decide)) ?_)
  refine v_sld C hX (vpin (show i + 1 < L by omega) (by omega)) dL_law_1362 (v_eqi (y := p1) e1 ?_)
  refine v_aload_n C 1 rfl dL_law_1363 rfl ?_
  refine v_iload C 0 rfl dL_law_1364 ?_
  refine v_iconst (v := 2) C dL_law_1366 (by decide) ?_
  refine v_iadd C dL_law_1367 (v_eqi (nI_adk i 2 (by decide)) ?_)
  refine v_sld C hX (vpin (show i + 2 < L by omega) (by omega)) dL_law_1368 (v_eqi (y := p2) e2 ?_)
  refine v_aload_n C 4 rfl dL_law_1369 rfl ?_
  obtain ⟨xi0, hw, -, -, -, ⟨fo, ho⟩, hro⟩ := id li
  refine v_callL (rest := []) C hNc (c_L_state l hl G x o g sz p1 p2 fo h xi0 hw ho hro) CL_L_170 rfl rfl (Nat.le_of_ble_eq_true rfl) ⟨Nat.le_of_ble_eq_true rfl, Nat.le_of_ble_eq_true rfl⟩ ⟨by show cs + 10 ≤ 601024; omega, by show sl + 8000 ≤ 7293034; omega⟩ dL_law_1370 (fun r3 h3 w3 => ?_)
  by_cases hk : (kIsRQ sz p1 p2) = 0
  · obtain ⟨er, g2, lm⟩ := li.ok w3 hk
    subst er
    refine v_istore C [(5, .int 0), (4, .int (nI i)), (0, .ref sb), (1, .ref x), (2, .ref mm), (3, .ref o)] rfl (by decide) dL_law_1373 ?_
    refine v_aload_n C 4 rfl dL_law_1375 rfl ?_
    refine v_aload_n C 2 rfl dL_law_1376 rfl ?_
    refine v_iload C 1 rfl dL_law_1377 ?_
    refine v_iconst (v := 1) C dL_law_1379 (by decide) ?_
    refine v_iadd C dL_law_1380 (v_eqi (nI_adk i 1 (by decide)) ?_)
    refine v_sld C hX (vpin (show i + 1 < L by omega) (by omega)) dL_law_1381 (v_eqi (y := p1) e1 ?_)
    refine v_aload_n C 2 rfl dL_law_1382 rfl ?_
    refine v_iload C 1 rfl dL_law_1383 ?_
    refine v_iconst (v := 2) C dL_law_1385 (by decide) ?_
    refine v_iadd C dL_law_1386 (v_eqi (nI_adk i 2 (by decide)) ?_)
    refine v_sld C hX (vpin (show i + 2 < L by omega) (by omega)) dL_law_1387 (v_eqi (y := p2) e2 ?_)
    refine v_lt (fun B hB => ?_)
    obtain ⟨xi1, ⟨k1, mo1⟩, -⟩ := id lm
    obtain ⟨ns, na, ia, la, mr, ms, -⟩ := mo1.re hB
    refine v_callV (rest := []) C (c_X5_state l hl G mm (adB ad B) ns na ia la h3 sz p1 p2 h3 mr ms hw) K_L_172 mr.1 rfl rfl (Nat.le_of_ble_eq_true rfl) ⟨Nat.le_of_ble_eq_true rfl, Nat.le_of_ble_eq_true rfl⟩ ⟨by show cs + 10 + 0 ≤ 601024; omega, by show sl + 8000 + 0 ≤ 7293034; omega⟩ dL_law_1388 (fun r6 h6 w6 => ?_)
    rcases w6 with ⟨-, mo, er2⟩ | ⟨hn, -⟩
    · obtain ⟨li2, f, ho2, hf⟩ := lm.step hB hw mo
      refine v_istore C [(6, .int r6), (5, .int 0), (4, .int (nI i)), (0, .ref sb), (1, .ref x), (2, .ref mm), (3, .ref o)] rfl (by decide) dL_law_1391 ?_
      refine v_aload_n C 5 rfl dL_law_1393 rfl ?_
      obtain ⟨ns2, na2, ia2, la2, mr2, ms2, ek2⟩ := id mo
      refine v_callV (rest := []) C (c_X5_thrown l hl G mm (adB ad B) ns2 na2 ia2 la2 _ h6 mr2) K_L_105 mr2.1 rfl rfl (Nat.le_of_ble_eq_true rfl) ⟨Nat.le_of_ble_eq_true rfl, Nat.le_of_ble_eq_true rfl⟩ ⟨by show cs + 10 + 0 + 0 ≤ 601024; omega, by show sl + 8000 + 0 + 0 ≤ 7293034; omega⟩ dL_law_1394 (fun r7 h7 w7 => ?_)
      obtain ⟨et, rfl⟩ := w7
      rw [ek2] at et; subst et
      refine v_iload C 1 rfl dL_law_1397 ?_
      refine v_icmp_eq (tgt := 1404) C dL_law_1399 (by decide) (fun c8 => ?_) (fun c8 => absurd c8 (by decide))
      refine v_iload C 1 rfl dL_law_1404 ?_
      refine v_if_ne (tgt := 1421) C dL_law_1406 (by decide) (fun c9 => absurd c9 (by decide)) (fun c9 => ?_)
      refine v_aload_n C 6 rfl dL_law_1409 rfl ?_
      refine v_iconst (v := 0) C dL_law_1410 (by decide) ?_
      refine v_lald C ho2 (show vp_in (0 : Int32) 1 from vpin (n := 0) (N := 1) (by decide) (by decide)) dL_law_1411 (v_eql (y := (Int32.toInt64 (nI (vState sz (cl p1) (cl p2))))) hf ?_)
      refine v_iload C 0 rfl dL_law_1412 ?_
      refine v_i2l (v := (r6 : Int32).toInt64) C dL_law_1414 rfl ?_
      refine v_lcmp C dL_law_1415 ?_
      refine v_if_eq (tgt := 1421) C dL_law_1416 (by decide) (fun c10 => ?_) (fun c10 => absurd ((lgc_eq _ _).mpr (congrArg Int32.toInt64 er2).symm) c10)
      have c10 := (lgc_eq (Int32.toInt64 (nI (vState sz (cl p1) (cl p2)))) (Int32.toInt64 r6)).mp c10
      refine v_goto (tgt := 1797) C dL_law_1421 (by decide) ?_
      refine v_lvp [2, 3, 4, 5, 6] rfl ?_
      exact v_widen (by omega) (by omega) (kk _ _ _ _ li2)
    · exact absurd hk hn
  · obtain ⟨er, g2, lm⟩ := li.no w3 hk
    subst er
    have hk4 : (kIsRQ sz p1 p2) < 4 := by unfold kIsRQ; (repeat' split) <;> decide
    refine v_istore C [(5, .int (nI (kIsRQ sz p1 p2))), (4, .int (nI i)), (0, .ref sb), (1, .ref x), (2, .ref mm), (3, .ref o)] rfl (by decide) dL_law_1373 ?_
    refine v_aload_n C 4 rfl dL_law_1375 rfl ?_
    refine v_aload_n C 2 rfl dL_law_1376 rfl ?_
    refine v_iload C 1 rfl dL_law_1377 ?_
    refine v_iconst (v := 1) C dL_law_1379 (by decide) ?_
    refine v_iadd C dL_law_1380 (v_eqi (nI_adk i 1 (by decide)) ?_)
    refine v_sld C hX (vpin (show i + 1 < L by omega) (by omega)) dL_law_1381 (v_eqi (y := p1) e1 ?_)
    refine v_aload_n C 2 rfl dL_law_1382 rfl ?_
    refine v_iload C 1 rfl dL_law_1383 ?_
    refine v_iconst (v := 2) C dL_law_1385 (by decide) ?_
    refine v_iadd C dL_law_1386 (v_eqi (nI_adk i 2 (by decide)) ?_)
    refine v_sld C hX (vpin (show i + 2 < L by omega) (by omega)) dL_law_1387 (v_eqi (y := p2) e2 ?_)
    refine v_lt (fun B hB => ?_)
    obtain ⟨xi1, ⟨k1, mo1⟩, -⟩ := id lm
    obtain ⟨ns, na, ia, la, mr, ms, -⟩ := mo1.re hB
    refine v_callV (rest := []) C (c_X5_state l hl G mm (adB ad B) ns na ia la h3 sz p1 p2 h3 mr ms hw) K_L_172 mr.1 rfl rfl (Nat.le_of_ble_eq_true rfl) ⟨Nat.le_of_ble_eq_true rfl, Nat.le_of_ble_eq_true rfl⟩ ⟨by show cs + 10 + 0 ≤ 601024; omega, by show sl + 8000 + 0 ≤ 7293034; omega⟩ dL_law_1388 (fun r13 h13 w13 => ?_)
    rcases w13 with ⟨hn, -⟩ | ⟨-, mo⟩
    · exact absurd hn hk
    · obtain ⟨li2, -⟩ := lm.step hB hw mo
      refine v_istore C [(6, .int r13), (5, .int (nI (kIsRQ sz p1 p2))), (4, .int (nI i)), (0, .ref sb), (1, .ref x), (2, .ref mm), (3, .ref o)] rfl (by decide) dL_law_1391 ?_
      refine v_aload_n C 5 rfl dL_law_1393 rfl ?_
      obtain ⟨ns2, na2, ia2, la2, mr2, ms2, ek2⟩ := id mo
      refine v_callV (rest := []) C (c_X5_thrown l hl G mm (adB ad B) ns2 na2 ia2 la2 _ h13 mr2) K_L_105 mr2.1 rfl rfl (Nat.le_of_ble_eq_true rfl) ⟨Nat.le_of_ble_eq_true rfl, Nat.le_of_ble_eq_true rfl⟩ ⟨by show cs + 10 + 0 + 0 ≤ 601024; omega, by show sl + 8000 + 0 + 0 ≤ 7293034; omega⟩ dL_law_1394 (fun r14 h14 w14 => ?_)
      obtain ⟨et, rfl⟩ := w14
      rw [ek2] at et; subst et
      refine v_iload C 1 rfl dL_law_1397 ?_
      refine v_icmp_eq (tgt := 1404) C dL_law_1399 (by decide) (fun c15 => ?_) (fun c15 => absurd (by rfl) c15)
      have c15 := (nn_eq (a := (kIsRQ sz p1 p2)) (b := (kIsRQ sz p1 p2)) (by omega) (by omega)).mp c15
      refine v_iload C 1 rfl dL_law_1404 ?_
      refine v_if_ne (tgt := 1421) C dL_law_1406 (by decide) (fun c16 => ?_) (fun c16 => absurd c16 (nI_nz4 hk hk4))
      have c16 := (nk_ne (a := (kIsRQ sz p1 p2)) 0 (by decide) (by omega) (by decide)).mp c16
      refine v_goto (tgt := 1797) C dL_law_1421 (by decide) ?_
      refine v_lvp [2, 3, 4, 5, 6] rfl ?_
      exact v_widen (by omega) (by omega) (kk _ _ _ _ li2)
set_option maxHeartbeats 4000000 in
set_option maxRecDepth 100000 in
theorem law_room {p : Program} {l : Launch} {e : Env} {s : State} {m : MethodId} {args : Array Value} {below : List Frame} {meth : Method} {c : Code} {G : zG} (hl : l.stackTraces = false) (C : zOK p l e room_1 s m args below meth c G cL_law 8 RL) (hNc : zNc s) {sb L : Nat} {xs : Nat → Int32} (hX : va_X sb L xs s s.heap ∧ sb < s.heap.size ∧ sb < gN G) (hL : L ≤ 2048) (i : Nat) (hiL : i + 4 ≤ L) (p1 p2 p3 : Int32) (e1 : xs (nI (i + 1)).toNatClampNeg = p1) (e2 : xs (nI (i + 2)).toNatClampNeg = p2) (e3 : xs (nI (i + 3)).toNatClampNeg = p3) {Q : State → Prop} {h : zH} {g : XGh} {x mm o : Nat} {ad : Nat → Nat} {sz : ZS} (li : LI G h g x mm o ad sz) (cs sl : Nat) (hcs : cs + 20 ≤ 601024) (hsl : sl + 9000 ≤ 7293034) (kk : ∀ (h2 : zH) (g2 : XGh) (ad2 : Nat → Nat) (s2 : ZS), LI G h2 g2 x mm o ad2 s2 → V p l e room_1 s m args below meth c G 8 Q h2 (cs + 20) (sl + 9000) 1797 [(4, .int (nI i)), (0, .ref sb), (1, .ref x), (2, .ref mm), (3, .ref o)] []) : V p l e room_1 s m args below meth c G 8 Q h cs sl 1424 [(4, .int (nI i)), (0, .ref sb), (1, .ref x), (2, .ref mm), (3, .ref o)] [] := by
  refine v_aload_n C 2 rfl dL_law_1424 rfl ?_
  refine v_aload_n C 1 rfl dL_law_1425 rfl ?_
  refine v_iload C 0 rfl dL_law_1426 ?_
  refine v_iconst (v := 1) C dL_law_1428 (by decide) ?_
  refine v_iadd C dL_law_1429 (v_eqi (nI_adk i 1 (by decide)) ?_)
  refine v_sld C hX (vpin (show i + 1 < L by omega) (by omega)) dL_law_1430 (v_eqi (y := p1) e1 ?_)
  refine v_aload_n C 1 rfl dL_law_1431 rfl ?_
  refine v_iload C 0 rfl dL_law_1432 ?_
  refine v_iconst (v := 2) C dL_law_1434 (by decide) ?_
  refine v_iadd C dL_law_1435 (v_eqi (nI_adk i 2 (by decide)) ?_)
  refine v_sld C hX (vpin (show i + 2 < L by omega) (by omega)) dL_law_1436 (v_eqi (y := p2) e2 ?_)
  refine v_aload_n C 4 rfl dL_law_1437 rfl ?_
  obtain ⟨xi0, hw, -, -, -, ⟨fo, ho⟩, hro⟩ := id li
  refine v_callL (rest := []) C hNc (c_L_room l hl G x o g sz p1 p2 fo h xi0 hw ho hro) CL_L_173 rfl rfl (Nat.le_of_ble_eq_true rfl) ⟨Nat.le_of_ble_eq_true rfl, Nat.le_of_ble_eq_true rfl⟩ ⟨by show cs + 10 ≤ 601024; omega, by show sl + 8000 ≤ 7293034; omega⟩ dL_law_1438 (fun r3 h3 w3 => ?_)
  by_cases hk : (kRoom sz p1 p2) = 0
  · obtain ⟨er, g2, lm⟩ := li.ok w3 hk
    subst er
    refine v_istore C [(5, .int 0), (4, .int (nI i)), (0, .ref sb), (1, .ref x), (2, .ref mm), (3, .ref o)] rfl (by decide) dL_law_1441 ?_
    refine v_aload_n C 4 rfl dL_law_1443 rfl ?_
    refine v_aload_n C 2 rfl dL_law_1444 rfl ?_
    refine v_iload C 1 rfl dL_law_1445 ?_
    refine v_iconst (v := 1) C dL_law_1447 (by decide) ?_
    refine v_iadd C dL_law_1448 (v_eqi (nI_adk i 1 (by decide)) ?_)
    refine v_sld C hX (vpin (show i + 1 < L by omega) (by omega)) dL_law_1449 (v_eqi (y := p1) e1 ?_)
    refine v_aload_n C 2 rfl dL_law_1450 rfl ?_
    refine v_iload C 1 rfl dL_law_1451 ?_
    refine v_iconst (v := 2) C dL_law_1453 (by decide) ?_
    refine v_iadd C dL_law_1454 (v_eqi (nI_adk i 2 (by decide)) ?_)
    refine v_sld C hX (vpin (show i + 2 < L by omega) (by omega)) dL_law_1455 (v_eqi (y := p2) e2 ?_)
    refine v_lt (fun B hB => ?_)
    obtain ⟨xi1, ⟨k1, mo1⟩, -⟩ := id lm
    obtain ⟨ns, na, ia, la, mr, ms, -⟩ := mo1.re hB
    refine v_callV (rest := []) C (c_X5_room l hl G mm (adB ad B) ns na ia la h3 sz p1 p2 h3 mr ms hw) K_L_175 mr.1 rfl rfl (Nat.le_of_ble_eq_true rfl) ⟨Nat.le_of_ble_eq_true rfl, Nat.le_of_ble_eq_true rfl⟩ ⟨by show cs + 10 + 0 ≤ 601024; omega, by show sl + 8000 + 0 ≤ 7293034; omega⟩ dL_law_1456 (fun r6 h6 w6 => ?_)
    rcases w6 with ⟨-, mo, er2⟩ | ⟨hn, -⟩
    · obtain ⟨li2, f, ho2, hf⟩ := lm.step hB hw mo
      refine v_lstore C [(6, .long r6), (5, .int 0), (4, .int (nI i)), (0, .ref sb), (1, .ref x), (2, .ref mm), (3, .ref o)] rfl (by decide) dL_law_1459 ?_
      refine v_aload_n C 5 rfl dL_law_1461 rfl ?_
      obtain ⟨ns2, na2, ia2, la2, mr2, ms2, ek2⟩ := id mo
      refine v_callV (rest := []) C (c_X5_thrown l hl G mm (adB ad B) ns2 na2 ia2 la2 _ h6 mr2) K_L_105 mr2.1 rfl rfl (Nat.le_of_ble_eq_true rfl) ⟨Nat.le_of_ble_eq_true rfl, Nat.le_of_ble_eq_true rfl⟩ ⟨by show cs + 10 + 0 + 0 ≤ 601024; omega, by show sl + 8000 + 0 + 0 ≤ 7293034; omega⟩ dL_law_1462 (fun r7 h7 w7 => ?_)
      obtain ⟨et, rfl⟩ := w7
      rw [ek2] at et; subst et
      refine v_iload C 1 rfl dL_law_1465 ?_
      refine v_icmp_eq (tgt := 1472) C dL_law_1467 (by decide) (fun c8 => ?_) (fun c8 => absurd c8 (by decide))
      refine v_iload C 1 rfl dL_law_1472 ?_
      refine v_if_ne (tgt := 1488) C dL_law_1474 (by decide) (fun c9 => absurd c9 (by decide)) (fun c9 => ?_)
      refine v_aload_n C 6 rfl dL_law_1477 rfl ?_
      refine v_iconst (v := 0) C dL_law_1478 (by decide) ?_
      refine v_lald C ho2 (show vp_in (0 : Int32) 1 from vpin (n := 0) (N := 1) (by decide) (by decide)) dL_law_1479 (v_eql (y := (vRoom sz (cl p1) (cl p2))) hf ?_)
      refine v_lload C 0 rfl dL_law_1480 ?_
      refine v_lcmp C dL_law_1482 ?_
      refine v_if_eq (tgt := 1488) C dL_law_1483 (by decide) (fun c10 => ?_) (fun c10 => absurd ((lgc_eq _ _).mpr er2.symm) c10)
      have c10 := (lgc_eq (vRoom sz (cl p1) (cl p2)) r6).mp c10
      refine v_goto (tgt := 1797) C dL_law_1488 (by decide) ?_
      refine v_lvp [2, 3, 4, 5, 6] rfl ?_
      exact v_widen (by omega) (by omega) (kk _ _ _ _ li2)
    · exact absurd hk hn
  · obtain ⟨er, g2, lm⟩ := li.no w3 hk
    subst er
    have hk4 : (kRoom sz p1 p2) < 4 := by unfold kRoom; (repeat' split) <;> decide
    refine v_istore C [(5, .int (nI (kRoom sz p1 p2))), (4, .int (nI i)), (0, .ref sb), (1, .ref x), (2, .ref mm), (3, .ref o)] rfl (by decide) dL_law_1441 ?_
    refine v_aload_n C 4 rfl dL_law_1443 rfl ?_
    refine v_aload_n C 2 rfl dL_law_1444 rfl ?_
    refine v_iload C 1 rfl dL_law_1445 ?_
    refine v_iconst (v := 1) C dL_law_1447 (by decide) ?_
    refine v_iadd C dL_law_1448 (v_eqi (nI_adk i 1 (by decide)) ?_)
    refine v_sld C hX (vpin (show i + 1 < L by omega) (by omega)) dL_law_1449 (v_eqi (y := p1) e1 ?_)
    refine v_aload_n C 2 rfl dL_law_1450 rfl ?_
    refine v_iload C 1 rfl dL_law_1451 ?_
    refine v_iconst (v := 2) C dL_law_1453 (by decide) ?_
    refine v_iadd C dL_law_1454 (v_eqi (nI_adk i 2 (by decide)) ?_)
    refine v_sld C hX (vpin (show i + 2 < L by omega) (by omega)) dL_law_1455 (v_eqi (y := p2) e2 ?_)
    refine v_lt (fun B hB => ?_)
    obtain ⟨xi1, ⟨k1, mo1⟩, -⟩ := id lm
    obtain ⟨ns, na, ia, la, mr, ms, -⟩ := mo1.re hB
    refine v_callV (rest := []) C (c_X5_room l hl G mm (adB ad B) ns na ia la h3 sz p1 p2 h3 mr ms hw) K_L_175 mr.1 rfl rfl (Nat.le_of_ble_eq_true rfl) ⟨Nat.le_of_ble_eq_true rfl, Nat.le_of_ble_eq_true rfl⟩ ⟨by show cs + 10 + 0 ≤ 601024; omega, by show sl + 8000 + 0 ≤ 7293034; omega⟩ dL_law_1456 (fun r13 h13 w13 => ?_)
    rcases w13 with ⟨hn, -⟩ | ⟨-, mo⟩
    · exact absurd hn hk
    · obtain ⟨li2, -⟩ := lm.step hB hw mo
      refine v_lstore C [(6, .long r13), (5, .int (nI (kRoom sz p1 p2))), (4, .int (nI i)), (0, .ref sb), (1, .ref x), (2, .ref mm), (3, .ref o)] rfl (by decide) dL_law_1459 ?_
      refine v_aload_n C 5 rfl dL_law_1461 rfl ?_
      obtain ⟨ns2, na2, ia2, la2, mr2, ms2, ek2⟩ := id mo
      refine v_callV (rest := []) C (c_X5_thrown l hl G mm (adB ad B) ns2 na2 ia2 la2 _ h13 mr2) K_L_105 mr2.1 rfl rfl (Nat.le_of_ble_eq_true rfl) ⟨Nat.le_of_ble_eq_true rfl, Nat.le_of_ble_eq_true rfl⟩ ⟨by show cs + 10 + 0 + 0 ≤ 601024; omega, by show sl + 8000 + 0 + 0 ≤ 7293034; omega⟩ dL_law_1462 (fun r14 h14 w14 => ?_)
      obtain ⟨et, rfl⟩ := w14
      rw [ek2] at et; subst et
      refine v_iload C 1 rfl dL_law_1465 ?_
      refine v_icmp_eq (tgt := 1472) C dL_law_1467 (by decide) (fun c15 => ?_) (fun c15 => absurd (by rfl) c15)
      have c15 := (nn_eq (a := (kRoom sz p1 p2)) (b := (kRoom sz p1 p2)) (by omega) (by omega)).mp c15
      refine v_iload C 1 rfl dL_law_1472 ?_
      refine v_if_ne (tgt := 1488) C dL_law_1474 (by decide) (fun c16 => ?_) (fun c16 => absurd c16 (nI_nz4 hk hk4))
      have c16 := (nk_ne (a := (kRoom sz p1 p2)) 0 (by decide) (by omega) (by decide)).mp c16
      refine v_goto (tgt := 1797) C dL_law_1488 (by decide) ?_
      refine v_lvp [2, 3, 4, 5, 6] rfl ?_
      exact v_widen (by omega) (by omega) (kk _ _ _ _ li2)
set_option maxHeartbeats 4000000 in
set_option maxRecDepth 100000 in
theorem law_broken {p : Program} {l : Launch} {e : Env} {s : State} {m : MethodId} {args : Array Value} {below : List Frame} {meth : Method} {c : Code} {G : zG} (hl : l.stackTraces = false) (C : zOK p l e room_1 s m args below meth c G cL_law 8 RL) (hNc : zNc s) {sb L : Nat} {xs : Nat → Int32} (hX : va_X sb L xs s s.heap ∧ sb < s.heap.size ∧ sb < gN G) (hL : L ≤ 2048) (i : Nat) (hiL : i + 4 ≤ L) (p1 p2 p3 : Int32) (e1 : xs (nI (i + 1)).toNatClampNeg = p1) (e2 : xs (nI (i + 2)).toNatClampNeg = p2) (e3 : xs (nI (i + 3)).toNatClampNeg = p3) {Q : State → Prop} {h : zH} {g : XGh} {x mm o : Nat} {ad : Nat → Nat} {sz : ZS} (li : LI G h g x mm o ad sz) (cs sl : Nat) (hcs : cs + 20 ≤ 601024) (hsl : sl + 9000 ≤ 7293034) (kk : ∀ (h2 : zH) (g2 : XGh) (ad2 : Nat → Nat) (s2 : ZS), LI G h2 g2 x mm o ad2 s2 → V p l e room_1 s m args below meth c G 8 Q h2 (cs + 20) (sl + 9000) 1797 [(4, .int (nI i)), (0, .ref sb), (1, .ref x), (2, .ref mm), (3, .ref o)] []) : V p l e room_1 s m args below meth c G 8 Q h cs sl 1491 [(4, .int (nI i)), (0, .ref sb), (1, .ref x), (2, .ref mm), (3, .ref o)] [] := by
  refine v_aload_n C 2 rfl dL_law_1491 rfl ?_
  obtain ⟨xi0, hw, -⟩ := id li
  refine v_callV (rest := []) C (c_X4_broken l hl G x g sz h xi0 hw) K_L_176 xi0.1.1.1 rfl rfl (Nat.le_of_ble_eq_true rfl) ⟨Nat.le_of_ble_eq_true rfl, Nat.le_of_ble_eq_true rfl⟩ ⟨by show cs + 0 ≤ 601024; omega, by show sl + 0 ≤ 7293034; omega⟩ dL_law_1492 (fun r1 h1 w1 => ?_)
  obtain ⟨er, rfl⟩ := w1; subst er
  have lm := li.lm
  refine v_aload_n C 3 rfl dL_law_1495 rfl ?_
  refine v_lt (fun B hB => ?_)
  obtain ⟨xi1, ⟨k1, mo1⟩, -⟩ := id lm
  obtain ⟨ns, na, ia, la, mr, ms, -⟩ := mo1.re hB
  refine v_callV (rest := [.int (nI (vBroken sz (rN sz)))]) C (c_X5_broken l hl G mm (adB ad B) ns na ia la h sz h mr ms hw) K_L_179 mr.1 rfl rfl (Nat.le_of_ble_eq_true rfl) ⟨Nat.le_of_ble_eq_true rfl, Nat.le_of_ble_eq_true rfl⟩ ⟨by show cs + 0 + 0 ≤ 601024; omega, by show sl + 0 + 0 ≤ 7293034; omega⟩ dL_law_1496 (fun r2 h2 w2 => ?_)
  obtain ⟨er2, mo⟩ := w2; subst er2
  obtain ⟨li2, -⟩ := lm.step hB hw mo
  refine v_icmp_eq (tgt := 1797) C dL_law_1499 (by decide) (fun c3 => ?_) (fun c3 => absurd rfl c3)
  refine v_lvp [0, 1, 2, 3, 4] rfl ?_
  exact v_widen (by omega) (by omega) (kk _ _ _ _ li2)
set_option maxHeartbeats 4000000 in
set_option maxRecDepth 100000 in
theorem law_basket {p : Program} {l : Launch} {e : Env} {s : State} {m : MethodId} {args : Array Value} {below : List Frame} {meth : Method} {c : Code} {G : zG} (hl : l.stackTraces = false) (C : zOK p l e room_1 s m args below meth c G cL_law 8 RL) (hNc : zNc s) {sb L : Nat} {xs : Nat → Int32} (hX : va_X sb L xs s s.heap ∧ sb < s.heap.size ∧ sb < gN G) (hL : L ≤ 2048) (i : Nat) (hiL : i + 4 ≤ L) (p1 p2 p3 : Int32) (e1 : xs (nI (i + 1)).toNatClampNeg = p1) (e2 : xs (nI (i + 2)).toNatClampNeg = p2) (e3 : xs (nI (i + 3)).toNatClampNeg = p3) {Q : State → Prop} {h : zH} {g : XGh} {x mm o : Nat} {ad : Nat → Nat} {sz : ZS} (li : LI G h g x mm o ad sz) (cs sl : Nat) (hcs : cs + 20 ≤ 601024) (hsl : sl + 9000 ≤ 7293034) (kk : ∀ (h2 : zH) (g2 : XGh) (ad2 : Nat → Nat) (s2 : ZS), LI G h2 g2 x mm o ad2 s2 → V p l e room_1 s m args below meth c G 8 Q h2 (cs + 20) (sl + 9000) 1797 [(4, .int (nI i)), (0, .ref sb), (1, .ref x), (2, .ref mm), (3, .ref o)] []) : V p l e room_1 s m args below meth c G 8 Q h cs sl 1504 [(4, .int (nI i)), (0, .ref sb), (1, .ref x), (2, .ref mm), (3, .ref o)] [] := by
  refine v_aload_n C 2 rfl dL_law_1504 rfl ?_
  refine v_aload_n C 1 rfl dL_law_1505 rfl ?_
  refine v_iload C 0 rfl dL_law_1506 ?_
  refine v_iconst (v := 1) C dL_law_1508 (by decide) ?_
  refine v_iadd C dL_law_1509 (v_eqi (nI_adk i 1 (by decide)) ?_)
  refine v_sld C hX (vpin (show i + 1 < L by omega) (by omega)) dL_law_1510 (v_eqi (y := p1) e1 ?_)
  refine v_aload_n C 1 rfl dL_law_1511 rfl ?_
  refine v_iload C 0 rfl dL_law_1512 ?_
  refine v_iconst (v := 2) C dL_law_1514 (by decide) ?_
  refine v_iadd C dL_law_1515 (v_eqi (nI_adk i 2 (by decide)) ?_)
  refine v_sld C hX (vpin (show i + 2 < L by omega) (by omega)) dL_law_1516 (v_eqi (y := p2) e2 ?_)
  refine v_aload_n C 1 rfl dL_law_1517 rfl ?_
  refine v_iload C 0 rfl dL_law_1518 ?_
  refine v_iconst (v := 3) C dL_law_1520 (by decide) ?_
  refine v_iadd C dL_law_1521 (v_eqi (nI_adk i 3 (by decide)) ?_)
  refine v_sld C hX (vpin (show i + 3 < L by omega) (by omega)) dL_law_1522 (v_eqi (y := p3) e3 ?_)
  refine v_aload_n C 4 rfl dL_law_1523 rfl ?_
  obtain ⟨xi0, hw, -, -, -, ⟨fo, ho⟩, hro⟩ := id li
  refine v_callL (rest := []) C hNc (c_L_basket l hl G x o g sz p1 p2 p3 fo h xi0 hw ho hro) CL_L_180 rfl rfl (Nat.le_of_ble_eq_true rfl) ⟨Nat.le_of_ble_eq_true rfl, Nat.le_of_ble_eq_true rfl⟩ ⟨by show cs + 10 ≤ 601024; omega, by show sl + 8000 ≤ 7293034; omega⟩ dL_law_1524 (fun r4 h4 w4 => ?_)
  by_cases hk : (kBasket sz p1 p2 p3) = 0
  · obtain ⟨er, g2, lm⟩ := li.ok w4 hk
    subst er
    refine v_istore C [(5, .int 0), (4, .int (nI i)), (0, .ref sb), (1, .ref x), (2, .ref mm), (3, .ref o)] rfl (by decide) dL_law_1527 ?_
    refine v_aload_n C 4 rfl dL_law_1529 rfl ?_
    refine v_aload_n C 2 rfl dL_law_1530 rfl ?_
    refine v_iload C 1 rfl dL_law_1531 ?_
    refine v_iconst (v := 1) C dL_law_1533 (by decide) ?_
    refine v_iadd C dL_law_1534 (v_eqi (nI_adk i 1 (by decide)) ?_)
    refine v_sld C hX (vpin (show i + 1 < L by omega) (by omega)) dL_law_1535 (v_eqi (y := p1) e1 ?_)
    refine v_aload_n C 2 rfl dL_law_1536 rfl ?_
    refine v_iload C 1 rfl dL_law_1537 ?_
    refine v_iconst (v := 2) C dL_law_1539 (by decide) ?_
    refine v_iadd C dL_law_1540 (v_eqi (nI_adk i 2 (by decide)) ?_)
    refine v_sld C hX (vpin (show i + 2 < L by omega) (by omega)) dL_law_1541 (v_eqi (y := p2) e2 ?_)
    refine v_aload_n C 2 rfl dL_law_1542 rfl ?_
    refine v_iload C 1 rfl dL_law_1543 ?_
    refine v_iconst (v := 3) C dL_law_1545 (by decide) ?_
    refine v_iadd C dL_law_1546 (v_eqi (nI_adk i 3 (by decide)) ?_)
    refine v_sld C hX (vpin (show i + 3 < L by omega) (by omega)) dL_law_1547 (v_eqi (y := p3) e3 ?_)
    refine v_lt (fun B hB => ?_)
    obtain ⟨xi1, ⟨k1, mo1⟩, -⟩ := id lm
    obtain ⟨ns, na, ia, la, mr, ms, -⟩ := mo1.re hB
    refine v_callV (rest := []) C (c_X5_basket l hl G mm (adB ad B) ns na ia la h4 sz p1 p2 p3 h4 mr ms hw) K_L_182 mr.1 rfl rfl (Nat.le_of_ble_eq_true rfl) ⟨Nat.le_of_ble_eq_true rfl, Nat.le_of_ble_eq_true rfl⟩ ⟨by show cs + 10 + 0 ≤ 601024; omega, by show sl + 8000 + 0 ≤ 7293034; omega⟩ dL_law_1548 (fun r8 h8 w8 => ?_)
    rcases w8 with ⟨-, mo, er2⟩ | ⟨hn, -⟩
    · obtain ⟨li2, f, ho2, hf⟩ := lm.step hB (wf_basket hw hk) mo
      refine v_istore C [(6, .int r8), (5, .int 0), (4, .int (nI i)), (0, .ref sb), (1, .ref x), (2, .ref mm), (3, .ref o)] rfl (by decide) dL_law_1551 ?_
      refine v_aload_n C 5 rfl dL_law_1553 rfl ?_
      obtain ⟨ns2, na2, ia2, la2, mr2, ms2, ek2⟩ := id mo
      refine v_callV (rest := []) C (c_X5_thrown l hl G mm (adB ad B) ns2 na2 ia2 la2 _ h8 mr2) K_L_105 mr2.1 rfl rfl (Nat.le_of_ble_eq_true rfl) ⟨Nat.le_of_ble_eq_true rfl, Nat.le_of_ble_eq_true rfl⟩ ⟨by show cs + 10 + 0 + 0 ≤ 601024; omega, by show sl + 8000 + 0 + 0 ≤ 7293034; omega⟩ dL_law_1554 (fun r9 h9 w9 => ?_)
      obtain ⟨et, rfl⟩ := w9
      rw [ek2] at et; subst et
      refine v_iload C 1 rfl dL_law_1557 ?_
      refine v_icmp_eq (tgt := 1564) C dL_law_1559 (by decide) (fun c10 => ?_) (fun c10 => absurd c10 (by decide))
      refine v_iload C 1 rfl dL_law_1564 ?_
      refine v_if_ne (tgt := 1581) C dL_law_1566 (by decide) (fun c11 => absurd c11 (by decide)) (fun c11 => ?_)
      refine v_aload_n C 6 rfl dL_law_1569 rfl ?_
      refine v_iconst (v := 0) C dL_law_1570 (by decide) ?_
      refine v_lald C ho2 (show vp_in (0 : Int32) 1 from vpin (n := 0) (N := 1) (by decide) (by decide)) dL_law_1571 (v_eql (y := (Int32.toInt64 (nI (bN sz)))) hf ?_)
      refine v_iload C 0 rfl dL_law_1572 ?_
      refine v_i2l (v := (r8 : Int32).toInt64) C dL_law_1574 rfl ?_
      refine v_lcmp C dL_law_1575 ?_
      refine v_if_eq (tgt := 1581) C dL_law_1576 (by decide) (fun c12 => ?_) (fun c12 => absurd ((lgc_eq _ _).mpr (congrArg Int32.toInt64 er2).symm) c12)
      have c12 := (lgc_eq (Int32.toInt64 (nI (bN sz))) (Int32.toInt64 r8)).mp c12
      refine v_goto (tgt := 1797) C dL_law_1581 (by decide) ?_
      refine v_lvp [2, 3, 4, 5, 6] rfl ?_
      exact v_widen (by omega) (by omega) (kk _ _ _ _ li2)
    · exact absurd hk hn
  · obtain ⟨er, g2, lm⟩ := li.no w4 hk
    subst er
    have hk4 : (kBasket sz p1 p2 p3) < 4 := by unfold kBasket; (repeat' split) <;> decide
    refine v_istore C [(5, .int (nI (kBasket sz p1 p2 p3))), (4, .int (nI i)), (0, .ref sb), (1, .ref x), (2, .ref mm), (3, .ref o)] rfl (by decide) dL_law_1527 ?_
    refine v_aload_n C 4 rfl dL_law_1529 rfl ?_
    refine v_aload_n C 2 rfl dL_law_1530 rfl ?_
    refine v_iload C 1 rfl dL_law_1531 ?_
    refine v_iconst (v := 1) C dL_law_1533 (by decide) ?_
    refine v_iadd C dL_law_1534 (v_eqi (nI_adk i 1 (by decide)) ?_)
    refine v_sld C hX (vpin (show i + 1 < L by omega) (by omega)) dL_law_1535 (v_eqi (y := p1) e1 ?_)
    refine v_aload_n C 2 rfl dL_law_1536 rfl ?_
    refine v_iload C 1 rfl dL_law_1537 ?_
    refine v_iconst (v := 2) C dL_law_1539 (by decide) ?_
    refine v_iadd C dL_law_1540 (v_eqi (nI_adk i 2 (by decide)) ?_)
    refine v_sld C hX (vpin (show i + 2 < L by omega) (by omega)) dL_law_1541 (v_eqi (y := p2) e2 ?_)
    refine v_aload_n C 2 rfl dL_law_1542 rfl ?_
    refine v_iload C 1 rfl dL_law_1543 ?_
    refine v_iconst (v := 3) C dL_law_1545 (by decide) ?_
    refine v_iadd C dL_law_1546 (v_eqi (nI_adk i 3 (by decide)) ?_)
    refine v_sld C hX (vpin (show i + 3 < L by omega) (by omega)) dL_law_1547 (v_eqi (y := p3) e3 ?_)
    refine v_lt (fun B hB => ?_)
    obtain ⟨xi1, ⟨k1, mo1⟩, -⟩ := id lm
    obtain ⟨ns, na, ia, la, mr, ms, -⟩ := mo1.re hB
    refine v_callV (rest := []) C (c_X5_basket l hl G mm (adB ad B) ns na ia la h4 sz p1 p2 p3 h4 mr ms hw) K_L_182 mr.1 rfl rfl (Nat.le_of_ble_eq_true rfl) ⟨Nat.le_of_ble_eq_true rfl, Nat.le_of_ble_eq_true rfl⟩ ⟨by show cs + 10 + 0 ≤ 601024; omega, by show sl + 8000 + 0 ≤ 7293034; omega⟩ dL_law_1548 (fun r16 h16 w16 => ?_)
    rcases w16 with ⟨hn, -⟩ | ⟨-, mo⟩
    · exact absurd hn hk
    · obtain ⟨li2, -⟩ := lm.step hB hw mo
      refine v_istore C [(6, .int r16), (5, .int (nI (kBasket sz p1 p2 p3))), (4, .int (nI i)), (0, .ref sb), (1, .ref x), (2, .ref mm), (3, .ref o)] rfl (by decide) dL_law_1551 ?_
      refine v_aload_n C 5 rfl dL_law_1553 rfl ?_
      obtain ⟨ns2, na2, ia2, la2, mr2, ms2, ek2⟩ := id mo
      refine v_callV (rest := []) C (c_X5_thrown l hl G mm (adB ad B) ns2 na2 ia2 la2 _ h16 mr2) K_L_105 mr2.1 rfl rfl (Nat.le_of_ble_eq_true rfl) ⟨Nat.le_of_ble_eq_true rfl, Nat.le_of_ble_eq_true rfl⟩ ⟨by show cs + 10 + 0 + 0 ≤ 601024; omega, by show sl + 8000 + 0 + 0 ≤ 7293034; omega⟩ dL_law_1554 (fun r17 h17 w17 => ?_)
      obtain ⟨et, rfl⟩ := w17
      rw [ek2] at et; subst et
      refine v_iload C 1 rfl dL_law_1557 ?_
      refine v_icmp_eq (tgt := 1564) C dL_law_1559 (by decide) (fun c18 => ?_) (fun c18 => absurd (by rfl) c18)
      have c18 := (nn_eq (a := (kBasket sz p1 p2 p3)) (b := (kBasket sz p1 p2 p3)) (by omega) (by omega)).mp c18
      refine v_iload C 1 rfl dL_law_1564 ?_
      refine v_if_ne (tgt := 1581) C dL_law_1566 (by decide) (fun c19 => ?_) (fun c19 => absurd c19 (nI_nz4 hk hk4))
      have c19 := (nk_ne (a := (kBasket sz p1 p2 p3)) 0 (by decide) (by omega) (by decide)).mp c19
      refine v_goto (tgt := 1797) C dL_law_1581 (by decide) ?_
      refine v_lvp [2, 3, 4, 5, 6] rfl ?_
      exact v_widen (by omega) (by omega) (kk _ _ _ _ li2)
set_option maxHeartbeats 4000000 in
set_option maxRecDepth 100000 in
theorem law_size {p : Program} {l : Launch} {e : Env} {s : State} {m : MethodId} {args : Array Value} {below : List Frame} {meth : Method} {c : Code} {G : zG} (hl : l.stackTraces = false) (C : zOK p l e room_1 s m args below meth c G cL_law 8 RL) (hNc : zNc s) {sb L : Nat} {xs : Nat → Int32} (hX : va_X sb L xs s s.heap ∧ sb < s.heap.size ∧ sb < gN G) (hL : L ≤ 2048) (i : Nat) (hiL : i + 4 ≤ L) (p1 p2 p3 : Int32) (e1 : xs (nI (i + 1)).toNatClampNeg = p1) (e2 : xs (nI (i + 2)).toNatClampNeg = p2) (e3 : xs (nI (i + 3)).toNatClampNeg = p3) {Q : State → Prop} {h : zH} {g : XGh} {x mm o : Nat} {ad : Nat → Nat} {sz : ZS} (li : LI G h g x mm o ad sz) (cs sl : Nat) (hcs : cs + 20 ≤ 601024) (hsl : sl + 9000 ≤ 7293034) (kk : ∀ (h2 : zH) (g2 : XGh) (ad2 : Nat → Nat) (s2 : ZS), LI G h2 g2 x mm o ad2 s2 → V p l e room_1 s m args below meth c G 8 Q h2 (cs + 20) (sl + 9000) 1797 [(4, .int (nI i)), (0, .ref sb), (1, .ref x), (2, .ref mm), (3, .ref o)] []) : V p l e room_1 s m args below meth c G 8 Q h cs sl 1584 [(4, .int (nI i)), (0, .ref sb), (1, .ref x), (2, .ref mm), (3, .ref o)] [] := by
  refine v_aload_n C 2 rfl dL_law_1584 rfl ?_
  refine v_aload_n C 1 rfl dL_law_1585 rfl ?_
  refine v_iload C 0 rfl dL_law_1586 ?_
  refine v_iconst (v := 1) C dL_law_1588 (by decide) ?_
  refine v_iadd C dL_law_1589 (v_eqi (nI_adk i 1 (by decide)) ?_)
  refine v_sld C hX (vpin (show i + 1 < L by omega) (by omega)) dL_law_1590 (v_eqi (y := p1) e1 ?_)
  refine v_aload_n C 1 rfl dL_law_1591 rfl ?_
  refine v_iload C 0 rfl dL_law_1592 ?_
  refine v_iconst (v := 2) C dL_law_1594 (by decide) ?_
  refine v_iadd C dL_law_1595 (v_eqi (nI_adk i 2 (by decide)) ?_)
  refine v_sld C hX (vpin (show i + 2 < L by omega) (by omega)) dL_law_1596 (v_eqi (y := p2) e2 ?_)
  refine v_aload_n C 4 rfl dL_law_1597 rfl ?_
  obtain ⟨xi0, hw, -, -, -, ⟨fo, ho⟩, hro⟩ := id li
  refine v_callL (rest := []) C hNc (c_L_size l hl G x o g sz p1 p2 fo h xi0 hw ho hro) CL_L_183 rfl rfl (Nat.le_of_ble_eq_true rfl) ⟨Nat.le_of_ble_eq_true rfl, Nat.le_of_ble_eq_true rfl⟩ ⟨by show cs + 10 ≤ 601024; omega, by show sl + 8000 ≤ 7293034; omega⟩ dL_law_1598 (fun r3 h3 w3 => ?_)
  by_cases hk : (kIsBQ sz p1 p2) = 0
  · obtain ⟨er, g2, lm⟩ := li.ok w3 hk
    subst er
    refine v_istore C [(5, .int 0), (4, .int (nI i)), (0, .ref sb), (1, .ref x), (2, .ref mm), (3, .ref o)] rfl (by decide) dL_law_1601 ?_
    refine v_aload_n C 4 rfl dL_law_1603 rfl ?_
    refine v_aload_n C 2 rfl dL_law_1604 rfl ?_
    refine v_iload C 1 rfl dL_law_1605 ?_
    refine v_iconst (v := 1) C dL_law_1607 (by decide) ?_
    refine v_iadd C dL_law_1608 (v_eqi (nI_adk i 1 (by decide)) ?_)
    refine v_sld C hX (vpin (show i + 1 < L by omega) (by omega)) dL_law_1609 (v_eqi (y := p1) e1 ?_)
    refine v_aload_n C 2 rfl dL_law_1610 rfl ?_
    refine v_iload C 1 rfl dL_law_1611 ?_
    refine v_iconst (v := 2) C dL_law_1613 (by decide) ?_
    refine v_iadd C dL_law_1614 (v_eqi (nI_adk i 2 (by decide)) ?_)
    refine v_sld C hX (vpin (show i + 2 < L by omega) (by omega)) dL_law_1615 (v_eqi (y := p2) e2 ?_)
    refine v_lt (fun B hB => ?_)
    obtain ⟨xi1, ⟨k1, mo1⟩, -⟩ := id lm
    obtain ⟨ns, na, ia, la, mr, ms, -⟩ := mo1.re hB
    refine v_callV (rest := []) C (c_X5_size l hl G mm (adB ad B) ns na ia la h3 sz p1 p2 h3 mr ms hw) K_L_185 mr.1 rfl rfl (Nat.le_of_ble_eq_true rfl) ⟨Nat.le_of_ble_eq_true rfl, Nat.le_of_ble_eq_true rfl⟩ ⟨by show cs + 10 + 0 ≤ 601024; omega, by show sl + 8000 + 0 ≤ 7293034; omega⟩ dL_law_1616 (fun r6 h6 w6 => ?_)
    rcases w6 with ⟨-, mo, er2⟩ | ⟨hn, -⟩
    · obtain ⟨li2, f, ho2, hf⟩ := lm.step hB hw mo
      refine v_lstore C [(6, .long r6), (5, .int 0), (4, .int (nI i)), (0, .ref sb), (1, .ref x), (2, .ref mm), (3, .ref o)] rfl (by decide) dL_law_1619 ?_
      refine v_aload_n C 5 rfl dL_law_1621 rfl ?_
      obtain ⟨ns2, na2, ia2, la2, mr2, ms2, ek2⟩ := id mo
      refine v_callV (rest := []) C (c_X5_thrown l hl G mm (adB ad B) ns2 na2 ia2 la2 _ h6 mr2) K_L_105 mr2.1 rfl rfl (Nat.le_of_ble_eq_true rfl) ⟨Nat.le_of_ble_eq_true rfl, Nat.le_of_ble_eq_true rfl⟩ ⟨by show cs + 10 + 0 + 0 ≤ 601024; omega, by show sl + 8000 + 0 + 0 ≤ 7293034; omega⟩ dL_law_1622 (fun r7 h7 w7 => ?_)
      obtain ⟨et, rfl⟩ := w7
      rw [ek2] at et; subst et
      refine v_iload C 1 rfl dL_law_1625 ?_
      refine v_icmp_eq (tgt := 1632) C dL_law_1627 (by decide) (fun c8 => ?_) (fun c8 => absurd c8 (by decide))
      refine v_iload C 1 rfl dL_law_1632 ?_
      refine v_if_ne (tgt := 1648) C dL_law_1634 (by decide) (fun c9 => absurd c9 (by decide)) (fun c9 => ?_)
      refine v_aload_n C 6 rfl dL_law_1637 rfl ?_
      refine v_iconst (v := 0) C dL_law_1638 (by decide) ?_
      refine v_lald C ho2 (show vp_in (0 : Int32) 1 from vpin (n := 0) (N := 1) (by decide) (by decide)) dL_law_1639 (v_eql (y := (bSize sz (cl p1) (cl p2))) hf ?_)
      refine v_lload C 0 rfl dL_law_1640 ?_
      refine v_lcmp C dL_law_1642 ?_
      refine v_if_eq (tgt := 1648) C dL_law_1643 (by decide) (fun c10 => ?_) (fun c10 => absurd ((lgc_eq _ _).mpr er2.symm) c10)
      have c10 := (lgc_eq (bSize sz (cl p1) (cl p2)) r6).mp c10
      refine v_goto (tgt := 1797) C dL_law_1648 (by decide) ?_
      refine v_lvp [2, 3, 4, 5, 6] rfl ?_
      exact v_widen (by omega) (by omega) (kk _ _ _ _ li2)
    · exact absurd hk hn
  · obtain ⟨er, g2, lm⟩ := li.no w3 hk
    subst er
    have hk4 : (kIsBQ sz p1 p2) < 4 := by unfold kIsBQ; (repeat' split) <;> decide
    refine v_istore C [(5, .int (nI (kIsBQ sz p1 p2))), (4, .int (nI i)), (0, .ref sb), (1, .ref x), (2, .ref mm), (3, .ref o)] rfl (by decide) dL_law_1601 ?_
    refine v_aload_n C 4 rfl dL_law_1603 rfl ?_
    refine v_aload_n C 2 rfl dL_law_1604 rfl ?_
    refine v_iload C 1 rfl dL_law_1605 ?_
    refine v_iconst (v := 1) C dL_law_1607 (by decide) ?_
    refine v_iadd C dL_law_1608 (v_eqi (nI_adk i 1 (by decide)) ?_)
    refine v_sld C hX (vpin (show i + 1 < L by omega) (by omega)) dL_law_1609 (v_eqi (y := p1) e1 ?_)
    refine v_aload_n C 2 rfl dL_law_1610 rfl ?_
    refine v_iload C 1 rfl dL_law_1611 ?_
    refine v_iconst (v := 2) C dL_law_1613 (by decide) ?_
    refine v_iadd C dL_law_1614 (v_eqi (nI_adk i 2 (by decide)) ?_)
    refine v_sld C hX (vpin (show i + 2 < L by omega) (by omega)) dL_law_1615 (v_eqi (y := p2) e2 ?_)
    refine v_lt (fun B hB => ?_)
    obtain ⟨xi1, ⟨k1, mo1⟩, -⟩ := id lm
    obtain ⟨ns, na, ia, la, mr, ms, -⟩ := mo1.re hB
    refine v_callV (rest := []) C (c_X5_size l hl G mm (adB ad B) ns na ia la h3 sz p1 p2 h3 mr ms hw) K_L_185 mr.1 rfl rfl (Nat.le_of_ble_eq_true rfl) ⟨Nat.le_of_ble_eq_true rfl, Nat.le_of_ble_eq_true rfl⟩ ⟨by show cs + 10 + 0 ≤ 601024; omega, by show sl + 8000 + 0 ≤ 7293034; omega⟩ dL_law_1616 (fun r13 h13 w13 => ?_)
    rcases w13 with ⟨hn, -⟩ | ⟨-, mo⟩
    · exact absurd hn hk
    · obtain ⟨li2, -⟩ := lm.step hB hw mo
      refine v_lstore C [(6, .long r13), (5, .int (nI (kIsBQ sz p1 p2))), (4, .int (nI i)), (0, .ref sb), (1, .ref x), (2, .ref mm), (3, .ref o)] rfl (by decide) dL_law_1619 ?_
      refine v_aload_n C 5 rfl dL_law_1621 rfl ?_
      obtain ⟨ns2, na2, ia2, la2, mr2, ms2, ek2⟩ := id mo
      refine v_callV (rest := []) C (c_X5_thrown l hl G mm (adB ad B) ns2 na2 ia2 la2 _ h13 mr2) K_L_105 mr2.1 rfl rfl (Nat.le_of_ble_eq_true rfl) ⟨Nat.le_of_ble_eq_true rfl, Nat.le_of_ble_eq_true rfl⟩ ⟨by show cs + 10 + 0 + 0 ≤ 601024; omega, by show sl + 8000 + 0 + 0 ≤ 7293034; omega⟩ dL_law_1622 (fun r14 h14 w14 => ?_)
      obtain ⟨et, rfl⟩ := w14
      rw [ek2] at et; subst et
      refine v_iload C 1 rfl dL_law_1625 ?_
      refine v_icmp_eq (tgt := 1632) C dL_law_1627 (by decide) (fun c15 => ?_) (fun c15 => absurd (by rfl) c15)
      have c15 := (nn_eq (a := (kIsBQ sz p1 p2)) (b := (kIsBQ sz p1 p2)) (by omega) (by omega)).mp c15
      refine v_iload C 1 rfl dL_law_1632 ?_
      refine v_if_ne (tgt := 1648) C dL_law_1634 (by decide) (fun c16 => ?_) (fun c16 => absurd c16 (nI_nz4 hk hk4))
      have c16 := (nk_ne (a := (kIsBQ sz p1 p2)) 0 (by decide) (by omega) (by decide)).mp c16
      refine v_goto (tgt := 1797) C dL_law_1648 (by decide) ?_
      refine v_lvp [2, 3, 4, 5, 6] rfl ?_
      exact v_widen (by omega) (by omega) (kk _ _ _ _ li2)
set_option maxHeartbeats 4000000 in
set_option maxRecDepth 100000 in
theorem law_use {p : Program} {l : Launch} {e : Env} {s : State} {m : MethodId} {args : Array Value} {below : List Frame} {meth : Method} {c : Code} {G : zG} (hl : l.stackTraces = false) (C : zOK p l e room_1 s m args below meth c G cL_law 8 RL) (hNc : zNc s) {sb L : Nat} {xs : Nat → Int32} (hX : va_X sb L xs s s.heap ∧ sb < s.heap.size ∧ sb < gN G) (hL : L ≤ 2048) (i : Nat) (hiL : i + 4 ≤ L) (p1 p2 p3 : Int32) (e1 : xs (nI (i + 1)).toNatClampNeg = p1) (e2 : xs (nI (i + 2)).toNatClampNeg = p2) (e3 : xs (nI (i + 3)).toNatClampNeg = p3) {Q : State → Prop} {h : zH} {g : XGh} {x mm o : Nat} {ad : Nat → Nat} {sz : ZS} (li : LI G h g x mm o ad sz) (cs sl : Nat) (hcs : cs + 20 ≤ 601024) (hsl : sl + 9000 ≤ 7293034) (kk : ∀ (h2 : zH) (g2 : XGh) (ad2 : Nat → Nat) (s2 : ZS), LI G h2 g2 x mm o ad2 s2 → V p l e room_1 s m args below meth c G 8 Q h2 (cs + 20) (sl + 9000) 1797 [(4, .int (nI i)), (0, .ref sb), (1, .ref x), (2, .ref mm), (3, .ref o)] []) : V p l e room_1 s m args below meth c G 8 Q h cs sl 1651 [(4, .int (nI i)), (0, .ref sb), (1, .ref x), (2, .ref mm), (3, .ref o)] [] := by
  refine v_aload_n C 2 rfl dL_law_1651 rfl ?_
  refine v_aload_n C 1 rfl dL_law_1652 rfl ?_
  refine v_iload C 0 rfl dL_law_1653 ?_
  refine v_iconst (v := 1) C dL_law_1655 (by decide) ?_
  refine v_iadd C dL_law_1656 (v_eqi (nI_adk i 1 (by decide)) ?_)
  refine v_sld C hX (vpin (show i + 1 < L by omega) (by omega)) dL_law_1657 (v_eqi (y := p1) e1 ?_)
  refine v_aload_n C 1 rfl dL_law_1658 rfl ?_
  refine v_iload C 0 rfl dL_law_1659 ?_
  refine v_iconst (v := 2) C dL_law_1661 (by decide) ?_
  refine v_iadd C dL_law_1662 (v_eqi (nI_adk i 2 (by decide)) ?_)
  refine v_sld C hX (vpin (show i + 2 < L by omega) (by omega)) dL_law_1663 (v_eqi (y := p2) e2 ?_)
  refine v_aload_n C 1 rfl dL_law_1664 rfl ?_
  refine v_iload C 0 rfl dL_law_1665 ?_
  refine v_iconst (v := 3) C dL_law_1667 (by decide) ?_
  refine v_iadd C dL_law_1668 (v_eqi (nI_adk i 3 (by decide)) ?_)
  refine v_sld C hX (vpin (show i + 3 < L by omega) (by omega)) dL_law_1669 (v_eqi (y := p3) e3 ?_)
  refine v_aload_n C 4 rfl dL_law_1670 rfl ?_
  obtain ⟨xi0, hw, -, -, -, ⟨fo, ho⟩, hro⟩ := id li
  refine v_callL (rest := []) C hNc (c_L_use l hl G x o g sz p1 p2 p3 fo h xi0 hw ho hro) CL_L_186 rfl rfl (Nat.le_of_ble_eq_true rfl) ⟨Nat.le_of_ble_eq_true rfl, Nat.le_of_ble_eq_true rfl⟩ ⟨by show cs + 10 ≤ 601024; omega, by show sl + 8000 ≤ 7293034; omega⟩ dL_law_1671 (fun r4 h4 w4 => ?_)
  by_cases hk : (kUse sz p1 p2 p3) = 0
  · obtain ⟨er, g2, lm⟩ := li.ok w4 hk
    subst er
    refine v_istore C [(5, .int 0), (4, .int (nI i)), (0, .ref sb), (1, .ref x), (2, .ref mm), (3, .ref o)] rfl (by decide) dL_law_1674 ?_
    refine v_aload_n C 4 rfl dL_law_1676 rfl ?_
    refine v_aload_n C 2 rfl dL_law_1677 rfl ?_
    refine v_iload C 1 rfl dL_law_1678 ?_
    refine v_iconst (v := 1) C dL_law_1680 (by decide) ?_
    refine v_iadd C dL_law_1681 (v_eqi (nI_adk i 1 (by decide)) ?_)
    refine v_sld C hX (vpin (show i + 1 < L by omega) (by omega)) dL_law_1682 (v_eqi (y := p1) e1 ?_)
    refine v_aload_n C 2 rfl dL_law_1683 rfl ?_
    refine v_iload C 1 rfl dL_law_1684 ?_
    refine v_iconst (v := 2) C dL_law_1686 (by decide) ?_
    refine v_iadd C dL_law_1687 (v_eqi (nI_adk i 2 (by decide)) ?_)
    refine v_sld C hX (vpin (show i + 2 < L by omega) (by omega)) dL_law_1688 (v_eqi (y := p2) e2 ?_)
    refine v_aload_n C 2 rfl dL_law_1689 rfl ?_
    refine v_iload C 1 rfl dL_law_1690 ?_
    refine v_iconst (v := 3) C dL_law_1692 (by decide) ?_
    refine v_iadd C dL_law_1693 (v_eqi (nI_adk i 3 (by decide)) ?_)
    refine v_sld C hX (vpin (show i + 3 < L by omega) (by omega)) dL_law_1694 (v_eqi (y := p3) e3 ?_)
    refine v_lt (fun B hB => ?_)
    obtain ⟨xi1, ⟨k1, mo1⟩, -⟩ := id lm
    obtain ⟨ns, na, ia, la, mr, ms, -⟩ := mo1.re hB
    refine v_callV (rest := []) C (c_X5_use l hl G mm (adB ad B) ns na ia la h4 sz p1 p2 p3 h4 mr ms hw) K_L_188 mr.1 rfl rfl (Nat.le_of_ble_eq_true rfl) ⟨Nat.le_of_ble_eq_true rfl, Nat.le_of_ble_eq_true rfl⟩ ⟨by show cs + 10 + 0 ≤ 601024; omega, by show sl + 8000 + 0 ≤ 7293034; omega⟩ dL_law_1695 (fun r8 h8 w8 => ?_)
    rcases w8 with ⟨-, mo, er2⟩ | ⟨hn, -⟩
    · obtain ⟨li2, f, ho2, hf⟩ := lm.step hB (wf_use hw hk) mo
      refine v_lstore C [(6, .long r8), (5, .int 0), (4, .int (nI i)), (0, .ref sb), (1, .ref x), (2, .ref mm), (3, .ref o)] rfl (by decide) dL_law_1698 ?_
      refine v_aload_n C 5 rfl dL_law_1700 rfl ?_
      obtain ⟨ns2, na2, ia2, la2, mr2, ms2, ek2⟩ := id mo
      refine v_callV (rest := []) C (c_X5_thrown l hl G mm (adB ad B) ns2 na2 ia2 la2 _ h8 mr2) K_L_105 mr2.1 rfl rfl (Nat.le_of_ble_eq_true rfl) ⟨Nat.le_of_ble_eq_true rfl, Nat.le_of_ble_eq_true rfl⟩ ⟨by show cs + 10 + 0 + 0 ≤ 601024; omega, by show sl + 8000 + 0 + 0 ≤ 7293034; omega⟩ dL_law_1701 (fun r9 h9 w9 => ?_)
      obtain ⟨et, rfl⟩ := w9
      rw [ek2] at et; subst et
      refine v_iload C 1 rfl dL_law_1704 ?_
      refine v_icmp_eq (tgt := 1711) C dL_law_1706 (by decide) (fun c10 => ?_) (fun c10 => absurd c10 (by decide))
      refine v_iload C 1 rfl dL_law_1711 ?_
      refine v_if_ne (tgt := 1727) C dL_law_1713 (by decide) (fun c11 => absurd c11 (by decide)) (fun c11 => ?_)
      refine v_aload_n C 6 rfl dL_law_1716 rfl ?_
      refine v_iconst (v := 0) C dL_law_1717 (by decide) ?_
      refine v_lald C ho2 (show vp_in (0 : Int32) 1 from vpin (n := 0) (N := 1) (by decide) (by decide)) dL_law_1718 (v_eql (y := (bU sz (cl p1) + p3.toInt64)) hf ?_)
      refine v_lload C 0 rfl dL_law_1719 ?_
      refine v_lcmp C dL_law_1721 ?_
      refine v_if_eq (tgt := 1727) C dL_law_1722 (by decide) (fun c12 => ?_) (fun c12 => absurd ((lgc_eq _ _).mpr er2.symm) c12)
      have c12 := (lgc_eq (bU sz (cl p1) + p3.toInt64) r8).mp c12
      refine v_goto (tgt := 1797) C dL_law_1727 (by decide) ?_
      refine v_lvp [2, 3, 4, 5, 6] rfl ?_
      exact v_widen (by omega) (by omega) (kk _ _ _ _ li2)
    · exact absurd hk hn
  · obtain ⟨er, g2, lm⟩ := li.no w4 hk
    subst er
    have hk4 : (kUse sz p1 p2 p3) < 4 := by unfold kUse; (repeat' split) <;> decide
    refine v_istore C [(5, .int (nI (kUse sz p1 p2 p3))), (4, .int (nI i)), (0, .ref sb), (1, .ref x), (2, .ref mm), (3, .ref o)] rfl (by decide) dL_law_1674 ?_
    refine v_aload_n C 4 rfl dL_law_1676 rfl ?_
    refine v_aload_n C 2 rfl dL_law_1677 rfl ?_
    refine v_iload C 1 rfl dL_law_1678 ?_
    refine v_iconst (v := 1) C dL_law_1680 (by decide) ?_
    refine v_iadd C dL_law_1681 (v_eqi (nI_adk i 1 (by decide)) ?_)
    refine v_sld C hX (vpin (show i + 1 < L by omega) (by omega)) dL_law_1682 (v_eqi (y := p1) e1 ?_)
    refine v_aload_n C 2 rfl dL_law_1683 rfl ?_
    refine v_iload C 1 rfl dL_law_1684 ?_
    refine v_iconst (v := 2) C dL_law_1686 (by decide) ?_
    refine v_iadd C dL_law_1687 (v_eqi (nI_adk i 2 (by decide)) ?_)
    refine v_sld C hX (vpin (show i + 2 < L by omega) (by omega)) dL_law_1688 (v_eqi (y := p2) e2 ?_)
    refine v_aload_n C 2 rfl dL_law_1689 rfl ?_
    refine v_iload C 1 rfl dL_law_1690 ?_
    refine v_iconst (v := 3) C dL_law_1692 (by decide) ?_
    refine v_iadd C dL_law_1693 (v_eqi (nI_adk i 3 (by decide)) ?_)
    refine v_sld C hX (vpin (show i + 3 < L by omega) (by omega)) dL_law_1694 (v_eqi (y := p3) e3 ?_)
    refine v_lt (fun B hB => ?_)
    obtain ⟨xi1, ⟨k1, mo1⟩, -⟩ := id lm
    obtain ⟨ns, na, ia, la, mr, ms, -⟩ := mo1.re hB
    refine v_callV (rest := []) C (c_X5_use l hl G mm (adB ad B) ns na ia la h4 sz p1 p2 p3 h4 mr ms hw) K_L_188 mr.1 rfl rfl (Nat.le_of_ble_eq_true rfl) ⟨Nat.le_of_ble_eq_true rfl, Nat.le_of_ble_eq_true rfl⟩ ⟨by show cs + 10 + 0 ≤ 601024; omega, by show sl + 8000 + 0 ≤ 7293034; omega⟩ dL_law_1695 (fun r16 h16 w16 => ?_)
    rcases w16 with ⟨hn, -⟩ | ⟨-, mo⟩
    · exact absurd hn hk
    · obtain ⟨li2, -⟩ := lm.step hB hw mo
      refine v_lstore C [(6, .long r16), (5, .int (nI (kUse sz p1 p2 p3))), (4, .int (nI i)), (0, .ref sb), (1, .ref x), (2, .ref mm), (3, .ref o)] rfl (by decide) dL_law_1698 ?_
      refine v_aload_n C 5 rfl dL_law_1700 rfl ?_
      obtain ⟨ns2, na2, ia2, la2, mr2, ms2, ek2⟩ := id mo
      refine v_callV (rest := []) C (c_X5_thrown l hl G mm (adB ad B) ns2 na2 ia2 la2 _ h16 mr2) K_L_105 mr2.1 rfl rfl (Nat.le_of_ble_eq_true rfl) ⟨Nat.le_of_ble_eq_true rfl, Nat.le_of_ble_eq_true rfl⟩ ⟨by show cs + 10 + 0 + 0 ≤ 601024; omega, by show sl + 8000 + 0 + 0 ≤ 7293034; omega⟩ dL_law_1701 (fun r17 h17 w17 => ?_)
      obtain ⟨et, rfl⟩ := w17
      rw [ek2] at et; subst et
      refine v_iload C 1 rfl dL_law_1704 ?_
      refine v_icmp_eq (tgt := 1711) C dL_law_1706 (by decide) (fun c18 => ?_) (fun c18 => absurd (by rfl) c18)
      have c18 := (nn_eq (a := (kUse sz p1 p2 p3)) (b := (kUse sz p1 p2 p3)) (by omega) (by omega)).mp c18
      refine v_iload C 1 rfl dL_law_1711 ?_
      refine v_if_ne (tgt := 1727) C dL_law_1713 (by decide) (fun c19 => ?_) (fun c19 => absurd c19 (nI_nz4 hk hk4))
      have c19 := (nk_ne (a := (kUse sz p1 p2 p3)) 0 (by decide) (by omega) (by decide)).mp c19
      refine v_goto (tgt := 1797) C dL_law_1727 (by decide) ?_
      refine v_lvp [2, 3, 4, 5, 6] rfl ?_
      exact v_widen (by omega) (by omega) (kk _ _ _ _ li2)
set_option maxHeartbeats 4000000 in
set_option maxRecDepth 100000 in
theorem law_refill {p : Program} {l : Launch} {e : Env} {s : State} {m : MethodId} {args : Array Value} {below : List Frame} {meth : Method} {c : Code} {G : zG} (hl : l.stackTraces = false) (C : zOK p l e room_1 s m args below meth c G cL_law 8 RL) (hNc : zNc s) {sb L : Nat} {xs : Nat → Int32} (hX : va_X sb L xs s s.heap ∧ sb < s.heap.size ∧ sb < gN G) (hL : L ≤ 2048) (i : Nat) (hiL : i + 4 ≤ L) (p1 p2 p3 : Int32) (e1 : xs (nI (i + 1)).toNatClampNeg = p1) (e2 : xs (nI (i + 2)).toNatClampNeg = p2) (e3 : xs (nI (i + 3)).toNatClampNeg = p3) {Q : State → Prop} {h : zH} {g : XGh} {x mm o : Nat} {ad : Nat → Nat} {sz : ZS} (li : LI G h g x mm o ad sz) (cs sl : Nat) (hcs : cs + 20 ≤ 601024) (hsl : sl + 9000 ≤ 7293034) (kk : ∀ (h2 : zH) (g2 : XGh) (ad2 : Nat → Nat) (s2 : ZS), LI G h2 g2 x mm o ad2 s2 → V p l e room_1 s m args below meth c G 8 Q h2 (cs + 20) (sl + 9000) 1797 [(4, .int (nI i)), (0, .ref sb), (1, .ref x), (2, .ref mm), (3, .ref o)] []) : V p l e room_1 s m args below meth c G 8 Q h cs sl 1730 [(4, .int (nI i)), (0, .ref sb), (1, .ref x), (2, .ref mm), (3, .ref o)] [] := by
  refine v_aload_n C 2 rfl dL_law_1730 rfl ?_
  refine v_aload_n C 1 rfl dL_law_1731 rfl ?_
  refine v_iload C 0 rfl dL_law_1732 ?_
  refine v_iconst (v := 1) C dL_law_1734 (by decide) ?_
  refine v_iadd C dL_law_1735 (v_eqi (nI_adk i 1 (by decide)) ?_)
  refine v_sld C hX (vpin (show i + 1 < L by omega) (by omega)) dL_law_1736 (v_eqi (y := p1) e1 ?_)
  refine v_aload_n C 1 rfl dL_law_1737 rfl ?_
  refine v_iload C 0 rfl dL_law_1738 ?_
  refine v_iconst (v := 2) C dL_law_1740 (by decide) ?_
  refine v_iadd C dL_law_1741 (v_eqi (nI_adk i 2 (by decide)) ?_)
  refine v_sld C hX (vpin (show i + 2 < L by omega) (by omega)) dL_law_1742 (v_eqi (y := p2) e2 ?_)
  refine v_aload_n C 4 rfl dL_law_1743 rfl ?_
  obtain ⟨xi0, hw, -, -, -, ⟨fo, ho⟩, hro⟩ := id li
  refine v_callL (rest := []) C hNc (c_L_refill l hl G x o g sz p1 p2 fo h xi0 hw ho hro) CL_L_189 rfl rfl (Nat.le_of_ble_eq_true rfl) ⟨Nat.le_of_ble_eq_true rfl, Nat.le_of_ble_eq_true rfl⟩ ⟨by show cs + 10 ≤ 601024; omega, by show sl + 8000 ≤ 7293034; omega⟩ dL_law_1744 (fun r3 h3 w3 => ?_)
  by_cases hk : (kRefill sz p1 p2) = 0
  · obtain ⟨er, g2, lm⟩ := li.ok w3 hk
    subst er
    refine v_istore C [(5, .int 0), (4, .int (nI i)), (0, .ref sb), (1, .ref x), (2, .ref mm), (3, .ref o)] rfl (by decide) dL_law_1747 ?_
    refine v_aload_n C 4 rfl dL_law_1749 rfl ?_
    refine v_aload_n C 2 rfl dL_law_1750 rfl ?_
    refine v_iload C 1 rfl dL_law_1751 ?_
    refine v_iconst (v := 1) C dL_law_1753 (by decide) ?_
    refine v_iadd C dL_law_1754 (v_eqi (nI_adk i 1 (by decide)) ?_)
    refine v_sld C hX (vpin (show i + 1 < L by omega) (by omega)) dL_law_1755 (v_eqi (y := p1) e1 ?_)
    refine v_aload_n C 2 rfl dL_law_1756 rfl ?_
    refine v_iload C 1 rfl dL_law_1757 ?_
    refine v_iconst (v := 2) C dL_law_1759 (by decide) ?_
    refine v_iadd C dL_law_1760 (v_eqi (nI_adk i 2 (by decide)) ?_)
    refine v_sld C hX (vpin (show i + 2 < L by omega) (by omega)) dL_law_1761 (v_eqi (y := p2) e2 ?_)
    refine v_lt (fun B hB => ?_)
    obtain ⟨xi1, ⟨k1, mo1⟩, -⟩ := id lm
    obtain ⟨ns, na, ia, la, mr, ms, -⟩ := mo1.re hB
    refine v_callV (rest := []) C (c_X5_refill l hl G mm (adB ad B) ns na ia la h3 sz p1 p2 h3 mr ms hw) K_L_191 mr.1 rfl rfl (Nat.le_of_ble_eq_true rfl) ⟨Nat.le_of_ble_eq_true rfl, Nat.le_of_ble_eq_true rfl⟩ ⟨by show cs + 10 + 0 ≤ 601024; omega, by show sl + 8000 + 0 ≤ 7293034; omega⟩ dL_law_1762 (fun r6 h6 w6 => ?_)
    rcases w6 with ⟨-, mo, er2⟩ | ⟨hn, -⟩
    · obtain ⟨li2, f, ho2, hf⟩ := lm.step hB (wf_refill hw hk) mo
      refine v_lstore C [(6, .long r6), (5, .int 0), (4, .int (nI i)), (0, .ref sb), (1, .ref x), (2, .ref mm), (3, .ref o)] rfl (by decide) dL_law_1765 ?_
      refine v_aload_n C 5 rfl dL_law_1767 rfl ?_
      obtain ⟨ns2, na2, ia2, la2, mr2, ms2, ek2⟩ := id mo
      refine v_callV (rest := []) C (c_X5_thrown l hl G mm (adB ad B) ns2 na2 ia2 la2 _ h6 mr2) K_L_105 mr2.1 rfl rfl (Nat.le_of_ble_eq_true rfl) ⟨Nat.le_of_ble_eq_true rfl, Nat.le_of_ble_eq_true rfl⟩ ⟨by show cs + 10 + 0 + 0 ≤ 601024; omega, by show sl + 8000 + 0 + 0 ≤ 7293034; omega⟩ dL_law_1768 (fun r7 h7 w7 => ?_)
      obtain ⟨et, rfl⟩ := w7
      rw [ek2] at et; subst et
      refine v_iload C 1 rfl dL_law_1771 ?_
      refine v_icmp_eq (tgt := 1778) C dL_law_1773 (by decide) (fun c8 => ?_) (fun c8 => absurd c8 (by decide))
      refine v_iload C 1 rfl dL_law_1778 ?_
      refine v_if_ne (tgt := 1794) C dL_law_1780 (by decide) (fun c9 => absurd c9 (by decide)) (fun c9 => ?_)
      refine v_aload_n C 6 rfl dL_law_1783 rfl ?_
      refine v_iconst (v := 0) C dL_law_1784 (by decide) ?_
      refine v_lald C ho2 (show vp_in (0 : Int32) 1 from vpin (n := 0) (N := 1) (by decide) (by decide)) dL_law_1785 (v_eql (y := (bU sz (cl p1) - p2.toInt64)) hf ?_)
      refine v_lload C 0 rfl dL_law_1786 ?_
      refine v_lcmp C dL_law_1788 ?_
      refine v_if_eq (tgt := 1794) C dL_law_1789 (by decide) (fun c10 => ?_) (fun c10 => absurd ((lgc_eq _ _).mpr er2.symm) c10)
      have c10 := (lgc_eq (bU sz (cl p1) - p2.toInt64) r6).mp c10
      refine v_goto (tgt := 1797) C dL_law_1794 (by decide) ?_
      refine v_lvp [2, 3, 4, 5, 6] rfl ?_
      exact v_widen (by omega) (by omega) (kk _ _ _ _ li2)
    · exact absurd hk hn
  · obtain ⟨er, g2, lm⟩ := li.no w3 hk
    subst er
    have hk4 : (kRefill sz p1 p2) < 4 := by unfold kRefill; (repeat' split) <;> decide
    refine v_istore C [(5, .int (nI (kRefill sz p1 p2))), (4, .int (nI i)), (0, .ref sb), (1, .ref x), (2, .ref mm), (3, .ref o)] rfl (by decide) dL_law_1747 ?_
    refine v_aload_n C 4 rfl dL_law_1749 rfl ?_
    refine v_aload_n C 2 rfl dL_law_1750 rfl ?_
    refine v_iload C 1 rfl dL_law_1751 ?_
    refine v_iconst (v := 1) C dL_law_1753 (by decide) ?_
    refine v_iadd C dL_law_1754 (v_eqi (nI_adk i 1 (by decide)) ?_)
    refine v_sld C hX (vpin (show i + 1 < L by omega) (by omega)) dL_law_1755 (v_eqi (y := p1) e1 ?_)
    refine v_aload_n C 2 rfl dL_law_1756 rfl ?_
    refine v_iload C 1 rfl dL_law_1757 ?_
    refine v_iconst (v := 2) C dL_law_1759 (by decide) ?_
    refine v_iadd C dL_law_1760 (v_eqi (nI_adk i 2 (by decide)) ?_)
    refine v_sld C hX (vpin (show i + 2 < L by omega) (by omega)) dL_law_1761 (v_eqi (y := p2) e2 ?_)
    refine v_lt (fun B hB => ?_)
    obtain ⟨xi1, ⟨k1, mo1⟩, -⟩ := id lm
    obtain ⟨ns, na, ia, la, mr, ms, -⟩ := mo1.re hB
    refine v_callV (rest := []) C (c_X5_refill l hl G mm (adB ad B) ns na ia la h3 sz p1 p2 h3 mr ms hw) K_L_191 mr.1 rfl rfl (Nat.le_of_ble_eq_true rfl) ⟨Nat.le_of_ble_eq_true rfl, Nat.le_of_ble_eq_true rfl⟩ ⟨by show cs + 10 + 0 ≤ 601024; omega, by show sl + 8000 + 0 ≤ 7293034; omega⟩ dL_law_1762 (fun r13 h13 w13 => ?_)
    rcases w13 with ⟨hn, -⟩ | ⟨-, mo⟩
    · exact absurd hn hk
    · obtain ⟨li2, -⟩ := lm.step hB hw mo
      refine v_lstore C [(6, .long r13), (5, .int (nI (kRefill sz p1 p2))), (4, .int (nI i)), (0, .ref sb), (1, .ref x), (2, .ref mm), (3, .ref o)] rfl (by decide) dL_law_1765 ?_
      refine v_aload_n C 5 rfl dL_law_1767 rfl ?_
      obtain ⟨ns2, na2, ia2, la2, mr2, ms2, ek2⟩ := id mo
      refine v_callV (rest := []) C (c_X5_thrown l hl G mm (adB ad B) ns2 na2 ia2 la2 _ h13 mr2) K_L_105 mr2.1 rfl rfl (Nat.le_of_ble_eq_true rfl) ⟨Nat.le_of_ble_eq_true rfl, Nat.le_of_ble_eq_true rfl⟩ ⟨by show cs + 10 + 0 + 0 ≤ 601024; omega, by show sl + 8000 + 0 + 0 ≤ 7293034; omega⟩ dL_law_1768 (fun r14 h14 w14 => ?_)
      obtain ⟨et, rfl⟩ := w14
      rw [ek2] at et; subst et
      refine v_iload C 1 rfl dL_law_1771 ?_
      refine v_icmp_eq (tgt := 1778) C dL_law_1773 (by decide) (fun c15 => ?_) (fun c15 => absurd (by rfl) c15)
      have c15 := (nn_eq (a := (kRefill sz p1 p2)) (b := (kRefill sz p1 p2)) (by omega) (by omega)).mp c15
      refine v_iload C 1 rfl dL_law_1778 ?_
      refine v_if_ne (tgt := 1794) C dL_law_1780 (by decide) (fun c16 => ?_) (fun c16 => absurd c16 (nI_nz4 hk hk4))
      have c16 := (nk_ne (a := (kRefill sz p1 p2)) 0 (by decide) (by omega) (by decide)).mp c16
      refine v_goto (tgt := 1797) C dL_law_1794 (by decide) ?_
      refine v_lvp [2, 3, 4, 5, 6] rfl ?_
      exact v_widen (by omega) (by omega) (kk _ _ _ _ li2)

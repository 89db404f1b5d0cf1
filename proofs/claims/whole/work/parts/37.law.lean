theorem MO.fr {h h' : Mem} {l : Nat} {o : Option LL} (H : MO h l o) (hf : Fr (fun a => a < 91) h h') : MO h' l o := H.cong (fun a h1 h2 => hf a (fun z => by have z : a < 91 := z; omega))
theorem MRep.fr {h h' : Mem} {σ : Sta} (C : MRep h σ) (hf : Fr (fun a => a < 91) h h') : MRep h' σ := by
  have f : ∀ a, 91 ≤ a → h'.1 a = h.1 a := fun a ha => (hf a (fun z => by have z : a < 91 := z; omega)).1
  obtain ⟨c1, c2, c3, c4, c5, lk, a, b⟩ := C
  exact ⟨c1.cong (by rw [f 91 (by omega)]) (fun a h1 h2 => f a (by omega)), by rw [f 91 (by omega)]; exact c2, by rw [f 91 (by omega)]; exact c3, c4.fr hf, fun k hk => (c5 k hk).fr hf, lk, by rw [f 91 (by omega)]; exact a, fun z => ⟨fun s hs => by rw [f 107 (by omega)]; exact (b z).1 s hs, fun s hs => by rw [f 108 (by omega)]; exact (b z).2 s hs⟩⟩
theorem CRep.fr91 {h h' : Mem} {σ : Sta} (C : CRep h σ) (hf : Fr (fun a => 91 ≤ a) h h') : CRep h' σ := by
  have e0 : h'.1 0 = h.1 0 := (hf 0 (fun z => by have z : 91 ≤ 0 := z; omega)).1
  exact ⟨C.1.fr hf (fun a z => by have z : 91 ≤ a := z; omega), by rw [e0]; exact C.2.1, by rw [e0]; exact C.2.2.1, C.2.2.2.1.fr hf (fun a z => by have z : 91 ≤ a := z; omega), fun k hk => (C.2.2.2.2.1 k hk).fr hf (fun a z => by have z : 91 ≤ a := z; omega), fun z => (C.2.2.2.2.2 z).fr hf (fun a z => by have z : 91 ≤ a := z; omega)⟩
/-- the script, outside the world -/
def XS (Y : Env3) (b L : Nat) (xs : Nat → Int32) : Prop := va_X b L xs Y.1.2.2.2.2.1 Y.1.2.2.2.2.1.heap ∧ b < Y.1.2.2.2.2.1.heap.size ∧ ¬ Y.2.2 b
section LAW
variable {Y : Env3} {ad : Nat → Nat} {μ : Mth} {pc npc : Nat} {ls : List (Option Value)} {st : List Value} {h : Mem} {b L : Nat} {xs : Nat → Int32}
theorem r_sld {i : Nat} (hX : XS Y b L xs) (hL : L ≤ 2048) (e : dk μ pc .iaload 1 npc) (hi : i < L) (k : G Y ad μ npc ls (.int (xs i) :: st) h) : G Y ad μ pc ls (.int (nI i) :: .ref b :: st) h := by
  intro C H locs lsc hH hl
  obtain ⟨hd, rfl⟩ := e
  exact va_sld C.1 C.2.1 hX.1 hX.2.1 hX.2.2 hH.2.2 (vp_in_nI hi (by omega)) hd (by rw [nI_clamp (by omega)]; exact k C H locs lsc hH hl)
theorem r_slen (hX : XS Y b L xs) (e : dk μ pc .arraylength 1 npc) (k : G Y ad μ npc ls (.int (nI L) :: st) h) : G Y ad μ pc ls (.ref b :: st) h := by
  intro C H locs lsc hH hl
  obtain ⟨hd, rfl⟩ := e
  exact va_slen C.1 C.2.1 hX.1 hX.2.1 hX.2.2 hH.2.2 hd (k C H locs lsc hH hl)
theorem tw_law : decode mL_law.2.1 32 = .ok (.tableswitch 622 0 17 #[88, 111, 154, 187, 210, 249, 272, 295, 338, 372, 415, 448, 481, 505, 529, 553, 576, 599], 88) := by decide +kernel
theorem four {L i : Nat} (hL : L ≤ 2048) (hi : i ≤ 4096) (h : ¬ nI L - nI 4 < nI i) : i + 4 ≤ L := by
  rcases (by omega : 4 ≤ L ∨ L = 0 ∨ L = 1 ∨ L = 2 ∨ L = 3) with q | q
  · rw [pk_sub (by omega), nI_ltI (by omega) (by omega)] at h
    omega
  · exfalso
    apply h
    have hp : ¬ nI i < 0 := nI_pos (by omega)
    rw [Int32.lt_iff_toInt_lt, Int32.toInt_zero] at hp
    rw [Int32.lt_iff_toInt_lt]
    rcases q with rfl | rfl | rfl | rfl
    · rw [show (nI 0 - nI 4).toInt = -4 from by decide +kernel]; omega
    · rw [show (nI 1 - nI 4).toInt = -3 from by decide +kernel]; omega
    · rw [show (nI 2 - nI 4).toInt = -2 from by decide +kernel]; omega
    · rw [show (nI 3 - nI 4).toInt = -1 from by decide +kernel]; omega
set_option maxHeartbeats 1000000 in
theorem law_loop (hX : XS Y b L xs) (hL : L ≤ 2048) (fin : ∀ (h : Mem) (i : Nat), G Y ad mL_law 660 [some (.ref b), some (.ref (ad 0)), some (.ref (ad 91)), some (.int (nI i))] [] h) : ∀ (k i : Nat) (σ : Sta) (h : Mem), L + 4 - i ≤ k → i ≤ L + 3 → SI σ → CRep h σ → MRep h σ → G Y ad mL_law 18 [some (.ref b), some (.ref (ad 0)), some (.ref (ad 91)), some (.int (nI i))] [] h := by
  intro k
  induction k with
  | zero => intro i σ h hk hi; omega
  | succ k ih =>
    intro i σ h hk hi S C M
    refine r_il aL_law_18 rfl ?_
    refine r_al aL_law_19 rfl ?_
    refine r_slen hX aL_law_20 ?_
    refine r_ki aL_law_21 ?_
    refine r_isub aL_law_22 ?_
    refine r_c_gt aL_law_23 (fun _ => fin h i) (fun c23 => ?_)
    have hi4 := four hL (by omega) c23
    have back : ∀ (σ' : Sta) (h' : Mem), SI σ' → CRep h' σ' → MRep h' σ' → G Y ad mL_law 654 [some (.ref b), some (.ref (ad 0)), some (.ref (ad 91)), some (.int (nI i))] [] h' := by
      intro σ' h' S' C' M'
      refine r_in3 aL_law_654 rfl ?_
      refine r_go aL_law_657 ?_
      exact ih (i + 4) σ' h' (by omega) (by omega) S' C' M'
    refine r_al aL_law_26 rfl ?_
    refine r_il aL_law_27 rfl ?_
    refine r_sld hX hL aL_law_28 (by omega) ?_
    refine r_ki aL_law_29 ?_
    refine r_iand aL_law_31 ?_
    generalize xs i &&& nI 31 = op
    cases hx : inN op 18 with
    | none =>
      have hout : op.toInt < 0 ∨ 17 < op.toInt := by
        rcases Classical.em (op.toInt < 0 ∨ 17 < op.toInt) with z | z
        · exact z
        · exfalso
          have h0 : ¬ op < 0 := fun q => z (Or.inl (by rw [Int32.lt_iff_toInt_lt, Int32.toInt_zero] at q; exact q))
          have h5 : ¬ nI 18 ≤ op := fun q => z (Or.inr (by rw [Int32.le_iff_toInt_le, nI_toInt (by decide)] at q; omega))
          have := inN_in h0 h5
          rw [hx] at this
          cases this
      exact r_tsO tw_law hout (tgt := 654) (by decide) (back σ h S C M)
    | some j =>
      obtain ⟨hj, rfl⟩ := (inN_s (by decide)).mp hx
      have ti : (nI j).toInt = (j : Int) := nI_toInt (by omega)
      rcases (by omega : j = 0 ∨ j = 1 ∨ j = 2 ∨ j = 3 ∨ j = 4 ∨ j = 5 ∨ j = 6 ∨ j = 7 ∨ j = 8 ∨ j = 9 ∨ j = 10 ∨ j = 11 ∨ j = 12 ∨ j = 13 ∨ j = 14 ∨ j = 15 ∨ j = 16 ∨ j = 17) with rfl | rfl | rfl | rfl | rfl | rfl | rfl | rfl | rfl | rfl | rfl | rfl | rfl | rfl | rfl | rfl | rfl | rfl
      · refine r_tsI tw_law (by rw [ti]; decide) (by rw [ti]; decide) (off := 88) (by rw [ti]; decide) (tgt := 120) (by decide) ?_
        refine r_al aL_law_120 rfl ?_
        refine r_al aL_law_121 rfl ?_
        refine r_il aL_law_122 rfl ?_
        refine r_ki aL_law_123 ?_
        refine r_iaddN aL_law_124 ?_
        refine r_sld hX hL aL_law_125 (by omega) ?_
        refine r_VI1 aL_law_126 vX3_state rfl (K_X3_state S C) (fun x1 h1 Q1 => ?_)
        obtain ⟨rfl, C1, F1⟩ := Q1
        refine r_al aL_law_129 rfl ?_
        refine r_al aL_law_130 rfl ?_
        refine r_il aL_law_131 rfl ?_
        refine r_ki aL_law_132 ?_
        refine r_iaddN aL_law_133 ?_
        refine r_sld hX hL aL_law_134 (by omega) ?_
        refine r_VI1 aL_law_135 vX4_state rfl (K_X4_state S (M.fr F1)) (fun x2 h2 Q2 => ?_)
        obtain ⟨rfl, M2, F2⟩ := Q2
        refine r_c_eq aL_law_138 (fun _ => ?_) (fun c => absurd rfl c)
        exact back _ h2 (fState_si S) (C1.fr91 F2) M2
      · refine r_tsI tw_law (by rw [ti]; decide) (by rw [ti]; decide) (off := 111) (by rw [ti]; decide) (tgt := 143) (by decide) ?_
        refine r_al aL_law_143 rfl ?_
        refine r_al aL_law_144 rfl ?_
        refine r_il aL_law_145 rfl ?_
        refine r_ki aL_law_146 ?_
        refine r_iaddN aL_law_147 ?_
        refine r_sld hX hL aL_law_148 (by omega) ?_
        refine r_al aL_law_149 rfl ?_
        refine r_il aL_law_150 rfl ?_
        refine r_ki aL_law_151 ?_
        refine r_iaddN aL_law_152 ?_
        refine r_sld hX hL aL_law_153 (by omega) ?_
        refine r_al aL_law_154 rfl ?_
        refine r_il aL_law_155 rfl ?_
        refine r_ki aL_law_156 ?_
        refine r_iaddN aL_law_157 ?_
        refine r_sld hX hL aL_law_158 (by omega) ?_
        refine r_VI3 aL_law_159 vX3_arrow rfl (K_X3_arrow S C) (fun x1 h1 Q1 => ?_)
        obtain ⟨rfl, C1, F1⟩ := Q1
        refine r_al aL_law_162 rfl ?_
        refine r_al aL_law_163 rfl ?_
        refine r_il aL_law_164 rfl ?_
        refine r_ki aL_law_165 ?_
        refine r_iaddN aL_law_166 ?_
        refine r_sld hX hL aL_law_167 (by omega) ?_
        refine r_al aL_law_168 rfl ?_
        refine r_il aL_law_169 rfl ?_
        refine r_ki aL_law_170 ?_
        refine r_iaddN aL_law_171 ?_
        refine r_sld hX hL aL_law_172 (by omega) ?_
        refine r_al aL_law_173 rfl ?_
        refine r_il aL_law_174 rfl ?_
        refine r_ki aL_law_175 ?_
        refine r_iaddN aL_law_176 ?_
        refine r_sld hX hL aL_law_177 (by omega) ?_
        refine r_VI3 aL_law_178 vX4_arrow rfl (K_X4_arrow S (M.fr F1)) (fun x2 h2 Q2 => ?_)
        obtain ⟨rfl, M2, F2⟩ := Q2
        refine r_c_eq aL_law_181 (fun _ => ?_) (fun c => absurd rfl c)
        exact back _ h2 (fArrow_si S) (C1.fr91 F2) M2
      · refine r_tsI tw_law (by rw [ti]; decide) (by rw [ti]; decide) (off := 154) (by rw [ti]; decide) (tgt := 186) (by decide) ?_
        refine r_al aL_law_186 rfl ?_
        refine r_al aL_law_187 rfl ?_
        refine r_il aL_law_188 rfl ?_
        refine r_ki aL_law_189 ?_
        refine r_iaddN aL_law_190 ?_
        refine r_sld hX hL aL_law_191 (by omega) ?_
        refine r_al aL_law_192 rfl ?_
        refine r_il aL_law_193 rfl ?_
        refine r_ki aL_law_194 ?_
        refine r_iaddN aL_law_195 ?_
        refine r_sld hX hL aL_law_196 (by omega) ?_
        refine r_VI2 aL_law_197 vX3_law rfl (K_X3_law S C) (fun x1 h1 Q1 => ?_)
        obtain ⟨rfl, C1, F1⟩ := Q1
        refine r_al aL_law_200 rfl ?_
        refine r_al aL_law_201 rfl ?_
        refine r_il aL_law_202 rfl ?_
        refine r_ki aL_law_203 ?_
        refine r_iaddN aL_law_204 ?_
        refine r_sld hX hL aL_law_205 (by omega) ?_
        refine r_al aL_law_206 rfl ?_
        refine r_il aL_law_207 rfl ?_
        refine r_ki aL_law_208 ?_
        refine r_iaddN aL_law_209 ?_
        refine r_sld hX hL aL_law_210 (by omega) ?_
        refine r_VI2 aL_law_211 vX4_law rfl (K_X4_law S (M.fr F1)) (fun x2 h2 Q2 => ?_)
        obtain ⟨rfl, M2, F2⟩ := Q2
        refine r_c_eq aL_law_214 (fun _ => ?_) (fun c => absurd rfl c)
        exact back _ h2 (fLaw_si S) (C1.fr91 F2) M2
      · refine r_tsI tw_law (by rw [ti]; decide) (by rw [ti]; decide) (off := 187) (by rw [ti]; decide) (tgt := 219) (by decide) ?_
        refine r_al aL_law_219 rfl ?_
        refine r_al aL_law_220 rfl ?_
        refine r_il aL_law_221 rfl ?_
        refine r_ki aL_law_222 ?_
        refine r_iaddN aL_law_223 ?_
        refine r_sld hX hL aL_law_224 (by omega) ?_
        refine r_VI1 aL_law_225 vX3_order rfl (K_X3_order S C) (fun x1 h1 Q1 => ?_)
        obtain ⟨rfl, C1, F1⟩ := Q1
        refine r_al aL_law_228 rfl ?_
        refine r_al aL_law_229 rfl ?_
        refine r_il aL_law_230 rfl ?_
        refine r_ki aL_law_231 ?_
        refine r_iaddN aL_law_232 ?_
        refine r_sld hX hL aL_law_233 (by omega) ?_
        refine r_VI1 aL_law_234 vX4_order rfl (K_X4_order (M.fr F1)) (fun x2 h2 Q2 => ?_)
        obtain ⟨rfl, M2, F2⟩ := Q2
        refine r_c_eq aL_law_237 (fun _ => ?_) (fun c => absurd rfl c)
        exact back _ h2 (fOrder_si S) (C1.fr91 F2) M2
      · refine r_tsI tw_law (by rw [ti]; decide) (by rw [ti]; decide) (off := 210) (by rw [ti]; decide) (tgt := 242) (by decide) ?_
        refine r_al aL_law_242 rfl ?_
        refine r_al aL_law_243 rfl ?_
        refine r_il aL_law_244 rfl ?_
        refine r_ki aL_law_245 ?_
        refine r_iaddN aL_law_246 ?_
        refine r_sld hX hL aL_law_247 (by omega) ?_
        have jn0 : ∀ (st : List Value) (h0 : Mem), G Y ad mL_law 256 [some (.ref b), some (.ref (ad 0)), some (.ref (ad 91)), some (.int (nI i))] (.int (bI (decide (xs (i + 1) ≠ 0))) :: st) h0 → G Y ad mL_law 248 [some (.ref b), some (.ref (ad 0)), some (.ref (ad 91)), some (.int (nI i))] (.int (xs (i + 1)) :: st) h0 := by
          intro st h0 kk
          refine r_z_eq aL_law_248 (fun c0 => ?_) (fun c0 => ?_)
          · rw [decide_eq_false (fun z => z c0)] at kk
            refine r_ki aL_law_255 ?_
            exact kk
          · rw [decide_eq_true c0] at kk
            refine r_ki aL_law_251 ?_
            refine r_go aL_law_252 ?_
            exact kk
        refine jn0 _ _ ?_
        refine r_VI1 aL_law_256 vX3_joined rfl (K_X3_joined C) (fun x1 h1 Q1 => ?_)
        obtain ⟨rfl, C1, F1⟩ := Q1
        refine r_al aL_law_259 rfl ?_
        refine r_al aL_law_260 rfl ?_
        refine r_il aL_law_261 rfl ?_
        refine r_ki aL_law_262 ?_
        refine r_iaddN aL_law_263 ?_
        refine r_sld hX hL aL_law_264 (by omega) ?_
        have jn1 : ∀ (st : List Value) (h0 : Mem), G Y ad mL_law 273 [some (.ref b), some (.ref (ad 0)), some (.ref (ad 91)), some (.int (nI i))] (.int (bI (decide (xs (i + 1) ≠ 0))) :: st) h0 → G Y ad mL_law 265 [some (.ref b), some (.ref (ad 0)), some (.ref (ad 91)), some (.int (nI i))] (.int (xs (i + 1)) :: st) h0 := by
          intro st h0 kk
          refine r_z_eq aL_law_265 (fun c0 => ?_) (fun c0 => ?_)
          · rw [decide_eq_false (fun z => z c0)] at kk
            refine r_ki aL_law_272 ?_
            exact kk
          · rw [decide_eq_true c0] at kk
            refine r_ki aL_law_268 ?_
            refine r_go aL_law_269 ?_
            exact kk
        refine jn1 _ _ ?_
        refine r_VI1 aL_law_273 vX4_joined rfl (K_X4_joined (M.fr F1)) (fun x2 h2 Q2 => ?_)
        obtain ⟨rfl, M2, F2⟩ := Q2
        refine r_c_eq aL_law_276 (fun _ => ?_) (fun c => absurd rfl c)
        exact back _ h2 (fJoined_si S) (C1.fr91 F2) M2
      · refine r_tsI tw_law (by rw [ti]; decide) (by rw [ti]; decide) (off := 249) (by rw [ti]; decide) (tgt := 281) (by decide) ?_
        refine r_al aL_law_281 rfl ?_
        refine r_al aL_law_282 rfl ?_
        refine r_il aL_law_283 rfl ?_
        refine r_ki aL_law_284 ?_
        refine r_iaddN aL_law_285 ?_
        refine r_sld hX hL aL_law_286 (by omega) ?_
        refine r_VI1 aL_law_287 vX3_begin rfl (K_X3_begin S C) (fun x1 h1 Q1 => ?_)
        obtain ⟨rfl, C1, F1⟩ := Q1
        refine r_al aL_law_290 rfl ?_
        refine r_al aL_law_291 rfl ?_
        refine r_il aL_law_292 rfl ?_
        refine r_ki aL_law_293 ?_
        refine r_iaddN aL_law_294 ?_
        refine r_sld hX hL aL_law_295 (by omega) ?_
        refine r_VI1 aL_law_296 vX4_begin rfl (K_X4_begin S (M.fr F1)) (fun x2 h2 Q2 => ?_)
        obtain ⟨rfl, M2, F2⟩ := Q2
        refine r_c_eq aL_law_299 (fun _ => ?_) (fun c => absurd rfl c)
        exact back _ h2 (fBegin_si S) (C1.fr91 F2) M2
      · refine r_tsI tw_law (by rw [ti]; decide) (by rw [ti]; decide) (off := 272) (by rw [ti]; decide) (tgt := 304) (by decide) ?_
        refine r_al aL_law_304 rfl ?_
        refine r_al aL_law_305 rfl ?_
        refine r_il aL_law_306 rfl ?_
        refine r_ki aL_law_307 ?_
        refine r_iaddN aL_law_308 ?_
        refine r_sld hX hL aL_law_309 (by omega) ?_
        refine r_VI1 aL_law_310 vX3_grow rfl (K_X3_grow S C) (fun x1 h1 Q1 => ?_)
        obtain ⟨rfl, C1, F1⟩ := Q1
        refine r_al aL_law_313 rfl ?_
        refine r_al aL_law_314 rfl ?_
        refine r_il aL_law_315 rfl ?_
        refine r_ki aL_law_316 ?_
        refine r_iaddN aL_law_317 ?_
        refine r_sld hX hL aL_law_318 (by omega) ?_
        refine r_VI1 aL_law_319 vX4_grow rfl (K_X4_grow S (M.fr F1)) (fun x2 h2 Q2 => ?_)
        obtain ⟨rfl, M2, F2⟩ := Q2
        refine r_c_eq aL_law_322 (fun _ => ?_) (fun c => absurd rfl c)
        exact back _ h2 (fGrow_si S) (C1.fr91 F2) M2
      · refine r_tsI tw_law (by rw [ti]; decide) (by rw [ti]; decide) (off := 295) (by rw [ti]; decide) (tgt := 327) (by decide) ?_
        refine r_al aL_law_327 rfl ?_
        refine r_al aL_law_328 rfl ?_
        refine r_il aL_law_329 rfl ?_
        refine r_ki aL_law_330 ?_
        refine r_iaddN aL_law_331 ?_
        refine r_sld hX hL aL_law_332 (by omega) ?_
        refine r_al aL_law_333 rfl ?_
        refine r_il aL_law_334 rfl ?_
        refine r_ki aL_law_335 ?_
        refine r_iaddN aL_law_336 ?_
        refine r_sld hX hL aL_law_337 (by omega) ?_
        refine r_al aL_law_338 rfl ?_
        refine r_il aL_law_339 rfl ?_
        refine r_ki aL_law_340 ?_
        refine r_iaddN aL_law_341 ?_
        refine r_sld hX hL aL_law_342 (by omega) ?_
        refine r_VI3 aL_law_343 vX3_until rfl (K_X3_until S C) (fun x1 h1 Q1 => ?_)
        obtain ⟨rfl, C1, F1⟩ := Q1
        refine r_al aL_law_346 rfl ?_
        refine r_al aL_law_347 rfl ?_
        refine r_il aL_law_348 rfl ?_
        refine r_ki aL_law_349 ?_
        refine r_iaddN aL_law_350 ?_
        refine r_sld hX hL aL_law_351 (by omega) ?_
        refine r_al aL_law_352 rfl ?_
        refine r_il aL_law_353 rfl ?_
        refine r_ki aL_law_354 ?_
        refine r_iaddN aL_law_355 ?_
        refine r_sld hX hL aL_law_356 (by omega) ?_
        refine r_al aL_law_357 rfl ?_
        refine r_il aL_law_358 rfl ?_
        refine r_ki aL_law_359 ?_
        refine r_iaddN aL_law_360 ?_
        refine r_sld hX hL aL_law_361 (by omega) ?_
        refine r_VI3 aL_law_362 vX4_until rfl (K_X4_until S (M.fr F1)) (fun x2 h2 Q2 => ?_)
        obtain ⟨rfl, M2, F2⟩ := Q2
        refine r_c_eq aL_law_365 (fun _ => ?_) (fun c => absurd rfl c)
        exact back _ h2 (fUntil_si S) (C1.fr91 F2) M2
      · refine r_tsI tw_law (by rw [ti]; decide) (by rw [ti]; decide) (off := 338) (by rw [ti]; decide) (tgt := 370) (by decide) ?_
        refine r_al aL_law_370 rfl ?_
        refine r_al aL_law_371 rfl ?_
        refine r_il aL_law_372 rfl ?_
        refine r_ki aL_law_373 ?_
        refine r_iaddN aL_law_374 ?_
        refine r_sld hX hL aL_law_375 (by omega) ?_
        refine r_al aL_law_376 rfl ?_
        refine r_il aL_law_377 rfl ?_
        refine r_ki aL_law_378 ?_
        refine r_iaddN aL_law_379 ?_
        refine r_sld hX hL aL_law_380 (by omega) ?_
        refine r_VL2 aL_law_381 vX3_end rfl (K_X3_end S C) (fun x1 h1 Q1 => ?_)
        obtain ⟨rfl, C1, F1⟩ := Q1
        refine r_al aL_law_384 rfl ?_
        refine r_al aL_law_385 rfl ?_
        refine r_il aL_law_386 rfl ?_
        refine r_ki aL_law_387 ?_
        refine r_iaddN aL_law_388 ?_
        refine r_sld hX hL aL_law_389 (by omega) ?_
        refine r_al aL_law_390 rfl ?_
        refine r_il aL_law_391 rfl ?_
        refine r_ki aL_law_392 ?_
        refine r_iaddN aL_law_393 ?_
        refine r_sld hX hL aL_law_394 (by omega) ?_
        refine r_VL2 aL_law_395 vX4_end rfl (K_X4_end S (M.fr F1)) (fun x2 h2 Q2 => ?_)
        obtain ⟨rfl, M2, F2⟩ := Q2
        refine r_l_eq aL_law_398 aL_law_399 (fun _ => ?_) (fun c => absurd rfl c)
        exact back _ h2 (S) (C1.fr91 F2) M2
      · refine r_tsI tw_law (by rw [ti]; decide) (by rw [ti]; decide) (off := 372) (by rw [ti]; decide) (tgt := 404) (by decide) ?_
        refine r_al aL_law_404 rfl ?_
        refine r_al aL_law_405 rfl ?_
        refine r_il aL_law_406 rfl ?_
        refine r_ki aL_law_407 ?_
        refine r_iaddN aL_law_408 ?_
        refine r_sld hX hL aL_law_409 (by omega) ?_
        refine r_al aL_law_410 rfl ?_
        refine r_il aL_law_411 rfl ?_
        refine r_ki aL_law_412 ?_
        refine r_iaddN aL_law_413 ?_
        refine r_sld hX hL aL_law_414 (by omega) ?_
        refine r_al aL_law_415 rfl ?_
        refine r_il aL_law_416 rfl ?_
        refine r_ki aL_law_417 ?_
        refine r_iaddN aL_law_418 ?_
        refine r_sld hX hL aL_law_419 (by omega) ?_
        refine r_VI3 aL_law_420 vX3_given rfl (K_X3_given S C) (fun x1 h1 Q1 => ?_)
        obtain ⟨rfl, C1, F1⟩ := Q1
        refine r_al aL_law_423 rfl ?_
        refine r_al aL_law_424 rfl ?_
        refine r_il aL_law_425 rfl ?_
        refine r_ki aL_law_426 ?_
        refine r_iaddN aL_law_427 ?_
        refine r_sld hX hL aL_law_428 (by omega) ?_
        refine r_al aL_law_429 rfl ?_
        refine r_il aL_law_430 rfl ?_
        refine r_ki aL_law_431 ?_
        refine r_iaddN aL_law_432 ?_
        refine r_sld hX hL aL_law_433 (by omega) ?_
        refine r_al aL_law_434 rfl ?_
        refine r_il aL_law_435 rfl ?_
        refine r_ki aL_law_436 ?_
        refine r_iaddN aL_law_437 ?_
        refine r_sld hX hL aL_law_438 (by omega) ?_
        refine r_VI3 aL_law_439 vX4_given rfl (K_X4_given S (M.fr F1)) (fun x2 h2 Q2 => ?_)
        obtain ⟨rfl, M2, F2⟩ := Q2
        refine r_c_eq aL_law_442 (fun _ => ?_) (fun c => absurd rfl c)
        exact back _ h2 (S) (C1.fr91 F2) M2
      · refine r_tsI tw_law (by rw [ti]; decide) (by rw [ti]; decide) (off := 415) (by rw [ti]; decide) (tgt := 447) (by decide) ?_
        refine r_al aL_law_447 rfl ?_
        refine r_al aL_law_448 rfl ?_
        refine r_il aL_law_449 rfl ?_
        refine r_ki aL_law_450 ?_
        refine r_iaddN aL_law_451 ?_
        refine r_sld hX hL aL_law_452 (by omega) ?_
        refine r_al aL_law_453 rfl ?_
        refine r_il aL_law_454 rfl ?_
        refine r_ki aL_law_455 ?_
        refine r_iaddN aL_law_456 ?_
        refine r_sld hX hL aL_law_457 (by omega) ?_
        refine r_VI2 aL_law_458 vX3_best rfl (K_X3_best S C) (fun x1 h1 Q1 => ?_)
        obtain ⟨rfl, C1, F1⟩ := Q1
        refine r_al aL_law_461 rfl ?_
        refine r_al aL_law_462 rfl ?_
        refine r_il aL_law_463 rfl ?_
        refine r_ki aL_law_464 ?_
        refine r_iaddN aL_law_465 ?_
        refine r_sld hX hL aL_law_466 (by omega) ?_
        refine r_al aL_law_467 rfl ?_
        refine r_il aL_law_468 rfl ?_
        refine r_ki aL_law_469 ?_
        refine r_iaddN aL_law_470 ?_
        refine r_sld hX hL aL_law_471 (by omega) ?_
        refine r_VI2 aL_law_472 vX4_best rfl (K_X4_best S (M.fr F1)) (fun x2 h2 Q2 => ?_)
        obtain ⟨rfl, M2, F2⟩ := Q2
        refine r_c_eq aL_law_475 (fun _ => ?_) (fun c => absurd rfl c)
        exact back _ h2 (S) (C1.fr91 F2) M2
      · refine r_tsI tw_law (by rw [ti]; decide) (by rw [ti]; decide) (off := 448) (by rw [ti]; decide) (tgt := 480) (by decide) ?_
        refine r_al aL_law_480 rfl ?_
        refine r_al aL_law_481 rfl ?_
        refine r_il aL_law_482 rfl ?_
        refine r_ki aL_law_483 ?_
        refine r_iaddN aL_law_484 ?_
        refine r_sld hX hL aL_law_485 (by omega) ?_
        refine r_al aL_law_486 rfl ?_
        refine r_il aL_law_487 rfl ?_
        refine r_ki aL_law_488 ?_
        refine r_iaddN aL_law_489 ?_
        refine r_sld hX hL aL_law_490 (by omega) ?_
        refine r_VI2 aL_law_491 vX3_item rfl (K_X3_item S C) (fun x1 h1 Q1 => ?_)
        obtain ⟨rfl, C1, F1⟩ := Q1
        refine r_al aL_law_494 rfl ?_
        refine r_al aL_law_495 rfl ?_
        refine r_il aL_law_496 rfl ?_
        refine r_ki aL_law_497 ?_
        refine r_iaddN aL_law_498 ?_
        refine r_sld hX hL aL_law_499 (by omega) ?_
        refine r_al aL_law_500 rfl ?_
        refine r_il aL_law_501 rfl ?_
        refine r_ki aL_law_502 ?_
        refine r_iaddN aL_law_503 ?_
        refine r_sld hX hL aL_law_504 (by omega) ?_
        refine r_VI2 aL_law_505 vX4_item rfl (K_X4_item S (M.fr F1)) (fun x2 h2 Q2 => ?_)
        obtain ⟨rfl, M2, F2⟩ := Q2
        refine r_c_eq aL_law_508 (fun _ => ?_) (fun c => absurd rfl c)
        exact back _ h2 (S) (C1.fr91 F2) M2
      · refine r_tsI tw_law (by rw [ti]; decide) (by rw [ti]; decide) (off := 481) (by rw [ti]; decide) (tgt := 513) (by decide) ?_
        refine r_al aL_law_513 rfl ?_
        refine r_al aL_law_514 rfl ?_
        refine r_il aL_law_515 rfl ?_
        refine r_ki aL_law_516 ?_
        refine r_iaddN aL_law_517 ?_
        refine r_sld hX hL aL_law_518 (by omega) ?_
        refine r_VL1 aL_law_519 vX3_units rfl (K_X3_units S C) (fun x1 h1 Q1 => ?_)
        obtain ⟨rfl, C1, F1⟩ := Q1
        refine r_al aL_law_522 rfl ?_
        refine r_al aL_law_523 rfl ?_
        refine r_il aL_law_524 rfl ?_
        refine r_ki aL_law_525 ?_
        refine r_iaddN aL_law_526 ?_
        refine r_sld hX hL aL_law_527 (by omega) ?_
        refine r_VL1 aL_law_528 vX4_units rfl (K_X4_units S (M.fr F1)) (fun x2 h2 Q2 => ?_)
        obtain ⟨rfl, M2, F2⟩ := Q2
        refine r_l_eq aL_law_531 aL_law_532 (fun _ => ?_) (fun c => absurd rfl c)
        exact back _ h2 (S) (C1.fr91 F2) M2
      · refine r_tsI tw_law (by rw [ti]; decide) (by rw [ti]; decide) (off := 505) (by rw [ti]; decide) (tgt := 537) (by decide) ?_
        refine r_al aL_law_537 rfl ?_
        refine r_al aL_law_538 rfl ?_
        refine r_il aL_law_539 rfl ?_
        refine r_ki aL_law_540 ?_
        refine r_iaddN aL_law_541 ?_
        refine r_sld hX hL aL_law_542 (by omega) ?_
        refine r_VL1 aL_law_543 vX3_found rfl (K_X3_found S C) (fun x1 h1 Q1 => ?_)
        obtain ⟨rfl, C1, F1⟩ := Q1
        refine r_al aL_law_546 rfl ?_
        refine r_al aL_law_547 rfl ?_
        refine r_il aL_law_548 rfl ?_
        refine r_ki aL_law_549 ?_
        refine r_iaddN aL_law_550 ?_
        refine r_sld hX hL aL_law_551 (by omega) ?_
        refine r_VL1 aL_law_552 vX4_found rfl (K_X4_found S (M.fr F1)) (fun x2 h2 Q2 => ?_)
        obtain ⟨rfl, M2, F2⟩ := Q2
        refine r_l_eq aL_law_555 aL_law_556 (fun _ => ?_) (fun c => absurd rfl c)
        exact back _ h2 (S) (C1.fr91 F2) M2
      · refine r_tsI tw_law (by rw [ti]; decide) (by rw [ti]; decide) (off := 529) (by rw [ti]; decide) (tgt := 561) (by decide) ?_
        refine r_al aL_law_561 rfl ?_
        refine r_al aL_law_562 rfl ?_
        refine r_il aL_law_563 rfl ?_
        refine r_ki aL_law_564 ?_
        refine r_iaddN aL_law_565 ?_
        refine r_sld hX hL aL_law_566 (by omega) ?_
        refine r_VL1 aL_law_567 vX3_rests rfl (K_X3_rests S C) (fun x1 h1 Q1 => ?_)
        obtain ⟨rfl, C1, F1⟩ := Q1
        refine r_al aL_law_570 rfl ?_
        refine r_al aL_law_571 rfl ?_
        refine r_il aL_law_572 rfl ?_
        refine r_ki aL_law_573 ?_
        refine r_iaddN aL_law_574 ?_
        refine r_sld hX hL aL_law_575 (by omega) ?_
        refine r_VL1 aL_law_576 vX4_rests rfl (K_X4_rests S (M.fr F1)) (fun x2 h2 Q2 => ?_)
        obtain ⟨rfl, M2, F2⟩ := Q2
        refine r_l_eq aL_law_579 aL_law_580 (fun _ => ?_) (fun c => absurd rfl c)
        exact back _ h2 (S) (C1.fr91 F2) M2
      · refine r_tsI tw_law (by rw [ti]; decide) (by rw [ti]; decide) (off := 553) (by rw [ti]; decide) (tgt := 585) (by decide) ?_
        refine r_al aL_law_585 rfl ?_
        refine r_al aL_law_586 rfl ?_
        refine r_il aL_law_587 rfl ?_
        refine r_ki aL_law_588 ?_
        refine r_iaddN aL_law_589 ?_
        refine r_sld hX hL aL_law_590 (by omega) ?_
        refine r_VI1 aL_law_591 vX3_save rfl (K_X3_save S C) (fun x1 h1 Q1 => ?_)
        obtain ⟨rfl, C1, F1⟩ := Q1
        refine r_al aL_law_594 rfl ?_
        refine r_al aL_law_595 rfl ?_
        refine r_il aL_law_596 rfl ?_
        refine r_ki aL_law_597 ?_
        refine r_iaddN aL_law_598 ?_
        refine r_sld hX hL aL_law_599 (by omega) ?_
        refine r_VI1 aL_law_600 vX4_save rfl (K_X4_save S (M.fr F1)) (fun x2 h2 Q2 => ?_)
        obtain ⟨rfl, M2, F2⟩ := Q2
        refine r_c_eq aL_law_603 (fun _ => ?_) (fun c => absurd rfl c)
        exact back _ h2 (fSave_si S) (C1.fr91 F2) M2
      · refine r_tsI tw_law (by rw [ti]; decide) (by rw [ti]; decide) (off := 576) (by rw [ti]; decide) (tgt := 608) (by decide) ?_
        refine r_al aL_law_608 rfl ?_
        refine r_al aL_law_609 rfl ?_
        refine r_il aL_law_610 rfl ?_
        refine r_ki aL_law_611 ?_
        refine r_iaddN aL_law_612 ?_
        refine r_sld hX hL aL_law_613 (by omega) ?_
        refine r_VI1 aL_law_614 vX3_back rfl (K_X3_back S C) (fun x1 h1 Q1 => ?_)
        obtain ⟨rfl, C1, F1⟩ := Q1
        refine r_al aL_law_617 rfl ?_
        refine r_al aL_law_618 rfl ?_
        refine r_il aL_law_619 rfl ?_
        refine r_ki aL_law_620 ?_
        refine r_iaddN aL_law_621 ?_
        refine r_sld hX hL aL_law_622 (by omega) ?_
        refine r_VI1 aL_law_623 vX4_back rfl (K_X4_back S (M.fr F1)) (fun x2 h2 Q2 => ?_)
        obtain ⟨rfl, M2, F2⟩ := Q2
        refine r_c_eq aL_law_626 (fun _ => ?_) (fun c => absurd rfl c)
        exact back _ h2 (fBack_si S) (C1.fr91 F2) M2
      · refine r_tsI tw_law (by rw [ti]; decide) (by rw [ti]; decide) (off := 599) (by rw [ti]; decide) (tgt := 631) (by decide) ?_
        refine r_al aL_law_631 rfl ?_
        refine r_al aL_law_632 rfl ?_
        refine r_il aL_law_633 rfl ?_
        refine r_ki aL_law_634 ?_
        refine r_iaddN aL_law_635 ?_
        refine r_sld hX hL aL_law_636 (by omega) ?_
        refine r_VI1 aL_law_637 vX3_told rfl (K_X3_told S C) (fun x1 h1 Q1 => ?_)
        obtain ⟨rfl, C1, F1⟩ := Q1
        refine r_al aL_law_640 rfl ?_
        refine r_al aL_law_641 rfl ?_
        refine r_il aL_law_642 rfl ?_
        refine r_ki aL_law_643 ?_
        refine r_iaddN aL_law_644 ?_
        refine r_sld hX hL aL_law_645 (by omega) ?_
        refine r_VI1 aL_law_646 vX4_told rfl (K_X4_told S (M.fr F1)) (fun x2 h2 Q2 => ?_)
        obtain ⟨rfl, M2, F2⟩ := Q2
        refine r_c_eq aL_law_649 (fun _ => ?_) (fun c => absurd rfl c)
        exact back _ h2 (S) (C1.fr91 F2) M2
end LAW

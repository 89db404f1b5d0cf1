theorem uSum_take {Sh : List Itm} {k : Nat} (hk : k < Sh.length) : uSum (Sh.take (k + 1)) = uSum (Sh.take k) + (gi Sh k).2.2 := by rw [take_gi hk, uSum_app]; simp [uSum]
theorem uSum_td (Sh : List Itm) (k : Nat) : uSum (Sh.take k) + uSum (Sh.drop k) = uSum Sh := by rw [← uSum_app, List.take_append_drop]
section MODEL5
variable {ad : Nat → Nat} {h : Mem} {w : Wk} {l : Nat} {jn : Bool}
/-- behind the sharing: the item is taken out, the shares are put, the rest is kept -/
theorem goOn_tail {kind i st : Nat} {L Sh : List Itm} {F R : Nat → Nat} {Y : Env3} {Q : Bool → Mem → Prop} (hM : IsM Y ad (qZ Q)) (hW : WW w) (hl : l < 5) (hR : MW h w) (hi : i < L.length) (hI : IX L) (hs : (gi L i).1 < w.1) (hL : ML h l L F R) (hS : MSh h Sh) (hSm : ∀ p ∈ Sh, p.1 < 20 ∧ p.2.1 ≤ 40) (hSl : Sh.length ≤ 32) (h60 : (pu jn (L.eraseIdx i) Sh).length ≤ 60) (hSu : uSum Sh ≤ (gi L i).2.2) (hj : h.1 91 8 = bI jn) (hst : h.1 100 l = nI st)
    (post : ∀ (F' R' : Nat → Nat) (h' : Mem), (∀ o, w.2.1 (gi L i).1 = some o → F' = va_up F o (F o + ((gi L i).2.2 - uSum Sh)) ∧ R' = R) → (w.2.1 (gi L i).1 = none → F' = F ∧ R' = va_up R (gi L i).1 (R (gi L i).1 + ((gi L i).2.2 - uSum Sh))) → ML h' l (pu jn (L.eraseIdx i) Sh) F' R' → h'.1 98 l = h.1 98 l → h'.1 99 l = h.1 99 l → h'.1 100 l = nI (st + 1) → GL l h h' → Q true h') :
    G Y ad mX4_goOn 117 [some (.ref (ad 91)), some (.int (nI l)), some (.int (nI kind)), some (.int (nI i)), some (.int (nI (60 * l + i))), some (.int (nI (gi L i).1)), some (.long (lN (gi L i).2.2)), none, none, none, none] [] h := by
  have h20 := hW.n
  obtain ⟨hn, hIt, hF, hRr⟩ := id hL
  have n60 := hI.1
  have hmu := (hI.iw.gi hi).2.2
  have hue := uSum_erase L i hi
  -- the end
  have phC : ∀ (g : Mem), ML g l (pu jn (L.eraseIdx i) Sh) F R → g.1 98 l = h.1 98 l → g.1 99 l = h.1 99 l → g.1 100 l = nI st → GL l h g → G Y ad mX4_goOn 335 [some (.ref (ad 91)), some (.int (nI l)), some (.int (nI kind)), some (.int (nI i)), some (.int (nI (60 * l + i))), some (.int (nI (gi L i).1)), some (.long (lN ((gi L i).2.2 - uSum Sh))), none, none, none, none] [] g := by
    intro g gL g98 g99 g100 gG
    have ho := (hR.gl gG).2.1 _ hs
    obtain ⟨ga, gb, gc, gd⟩ := id gL
    cases hz : w.2.1 (gi L i).1 with
    | some o =>
      rw [hz] at ho
      have o8 := (hW.2.2.1 _ o hz).1
      have ef := gc o o8
      refine r_al aX4_goOn_335 rfl ?_
      refine r_getR aX4_goOn_336 rfl rfl ?_
      refine r_il aX4_goOn_339 rfl ?_
      refine r_xI aX4_goOn_341 rfl (by omega) ho ?_
      refine r_ki aX4_goOn_342 ?_
      refine r_c_eq aX4_goOn_343 (fun c343 => absurd c343 (fun z => nI_pos (n := o) (by omega) (by rw [show nI o = -1 from z]; decide))) (fun c343 => ?_)
      refine r_al aX4_goOn_346 rfl ?_
      refine r_getR aX4_goOn_347 rfl rfl ?_
      refine r_ki aX4_goOn_350 ?_
      refine r_il aX4_goOn_352 rfl ?_
      refine r_imulN aX4_goOn_353 ?_
      refine r_al aX4_goOn_354 rfl ?_
      refine r_getR aX4_goOn_355 rfl rfl ?_
      refine r_il aX4_goOn_358 rfl ?_
      refine r_xI aX4_goOn_360 rfl (by omega) (v := nI o) ho ?_
      refine r_iaddN aX4_goOn_361 ?_
      refine r_dup2 aX4_goOn_362 rfl rfl ?_
      refine r_xL aX4_goOn_363 rfl (by omega) ef ?_
      refine r_ll aX4_goOn_364 rfl ?_
      refine r_laddN aX4_goOn_366 ?_
      refine r_last aX4_goOn_367 rfl (by omega) ?_
      refine r_go aX4_goOn_368 ?_
      refine r_al aX4_goOn_388 rfl ?_
      refine r_getR aX4_goOn_389 rfl rfl ?_
      refine r_il aX4_goOn_392 rfl ?_
      refine r_dup2 aX4_goOn_393 rfl rfl ?_
      refine r_xI aX4_goOn_394 rfl (by omega) (v := nI st) g100 ?_
      refine r_ki aX4_goOn_395 ?_
      refine r_iaddN aX4_goOn_396 ?_
      refine r_iast aX4_goOn_397 rfl (by omega) ?_
      refine r_ki aX4_goOn_398 ?_
      refine r_zT hM aX4_goOn_399 rfl (post (va_up F o (F o + ((gi L i).2.2 - uSum Sh))) R _ (fun o' q => by cases hz.symm.trans q; exact ⟨rfl, rfl⟩) (fun q => by rw [hz] at q; cases q) ⟨?_, ?_, ?_, ?_⟩ ?_ ?_ ?_ ?_)
      · rw [si_o (by omega)]; exact ga
      · exact gb.cong (fun _ _ => by rw [si_o (by omega)]; rfl) (fun _ _ => by rw [si_o (by omega)]; rfl) (fun _ _ => by rw [si_2, sl_o (by omega)])
      · intro x hx
        rw [si_2, sl_2]
        by_cases e : x = o
        · subst e; rw [if_pos ⟨rfl, rfl⟩, mu_self]
        · rw [if_neg (by omega), mu_ne e]; exact gc x hx
      · intro x hx; rw [si_2, sl_o (by omega)]; exact gd x hx
      · rw [si_o (by omega)]; exact g98
      · rw [si_o (by omega)]; exact g99
      · rw [si_row, pk_us]
      · exact gG.tr ((GL.sl (by omega)).tr (GL.si (by omega)))
    | none =>
      rw [hz] at ho
      have er := gd (gi L i).1 (by omega)
      refine r_al aX4_goOn_335 rfl ?_
      refine r_getR aX4_goOn_336 rfl rfl ?_
      refine r_il aX4_goOn_339 rfl ?_
      refine r_xI aX4_goOn_341 rfl (by omega) ho ?_
      refine r_ki aX4_goOn_342 ?_
      refine r_c_eq aX4_goOn_343 (fun c343 => ?_) (fun c343 => ?_)
      · -- to 371
        refine r_al aX4_goOn_371 rfl ?_
        refine r_getR aX4_goOn_372 rfl rfl ?_
        refine r_ki aX4_goOn_375 ?_
        refine r_il aX4_goOn_377 rfl ?_
        refine r_imulN aX4_goOn_378 ?_
        refine r_il aX4_goOn_379 rfl ?_
        refine r_iaddN aX4_goOn_381 ?_
        refine r_dup2 aX4_goOn_382 rfl rfl ?_
        refine r_xL aX4_goOn_383 rfl (by omega) er ?_
        refine r_ll aX4_goOn_384 rfl ?_
        refine r_laddN aX4_goOn_386 ?_
        refine r_last aX4_goOn_387 rfl (by omega) ?_
        refine r_al aX4_goOn_388 rfl ?_
        refine r_getR aX4_goOn_389 rfl rfl ?_
        refine r_il aX4_goOn_392 rfl ?_
        refine r_dup2 aX4_goOn_393 rfl rfl ?_
        refine r_xI aX4_goOn_394 rfl (by omega) (v := nI st) g100 ?_
        refine r_ki aX4_goOn_395 ?_
        refine r_iaddN aX4_goOn_396 ?_
        refine r_iast aX4_goOn_397 rfl (by omega) ?_
        refine r_ki aX4_goOn_398 ?_
        refine r_zT hM aX4_goOn_399 rfl (post F (va_up R (gi L i).1 (R (gi L i).1 + ((gi L i).2.2 - uSum Sh))) _ (fun o' q => by rw [hz] at q; cases q) (fun _ => ⟨rfl, rfl⟩) ⟨?_, ?_, ?_, ?_⟩ ?_ ?_ ?_ ?_)
        · rw [si_o (by omega)]; exact ga
        · exact gb.cong (fun _ _ => by rw [si_o (by omega)]; rfl) (fun _ _ => by rw [si_o (by omega)]; rfl) (fun _ _ => by rw [si_2, sl_o (by omega)])
        · intro x hx; rw [si_2, sl_o (by omega)]; exact gc x hx
        · intro x hx
          rw [si_2, sl_2]
          by_cases e : x = (gi L i).1
          · subst e; rw [if_pos ⟨rfl, rfl⟩, mu_self]
          · rw [if_neg (by omega), mu_ne e]; exact gd x hx
        · rw [si_o (by omega)]; exact g98
        · rw [si_o (by omega)]; exact g99
        · rw [si_row, pk_us]
        · exact gG.tr ((GL.sl (by omega)).tr (GL.si (by omega)))
      · exact absurd rfl c343
  -- the shares are put
  have phB : ∀ (k j : Nat) (g : Mem) (C : List Itm), Sh.length - j = k → j ≤ Sh.length → ML g l C F R → MSh g Sh → pu jn C (Sh.drop j) = pu jn (L.eraseIdx i) Sh → (∀ p ∈ C, p.1 < 20 ∧ p.2.1 ≤ 40) → uSum C + uSum (Sh.drop j) ≤ 2 ^ 60 → g.1 98 l = h.1 98 l → g.1 99 l = h.1 99 l → g.1 100 l = nI st → GL l h g → G Y ad mX4_goOn 204 [some (.ref (ad 91)), some (.int (nI l)), some (.int (nI kind)), some (.int (nI i)), some (.int (nI (60 * l + i))), some (.int (nI (gi L i).1)), some (.long (lN ((gi L i).2.2 - uSum (Sh.take j)))), none, none, some (.int (nI j)), none] [] g := by
    intro k
    induction k with
    | zero =>
      intro j g C hk hjl gL gS hE hX hu g98 g99 g100 gG
      have e : j = Sh.length := by omega
      subst e
      have hs0 := gS.1
      rw [List.drop_length] at hE
      have hE : C = pu jn (L.eraseIdx i) Sh := hE
      rw [hE] at gL
      refine r_il aX4_goOn_204 rfl ?_
      refine r_al aX4_goOn_206 rfl ?_
      refine r_gI aX4_goOn_207 rfl rfl hs0 ?_
      refine r_n_ge aX4_goOn_210 (by omega) (by omega) (fun c210 => ?_) (fun c210 => ?_)
      · -- to 335
        rw [List.take_length]
        exact r_f9 (phC g gL g98 g99 g100 gG)
      · omega
    | succ k ih =>
      intro j g C hk hjl gL gS hE hX hu g98 g99 g100 gG
      have hs0 := gS.1
      have hlt : j < Sh.length := by omega
      obtain ⟨e1, e2, e3⟩ := gS.2.gi hlt
      rw [n0] at e1 e2 e3
      have bi := hSm _ (gi_mem hlt)
      have ut := uSum_take hlt
      have utd := uSum_td Sh (j + 1)
      have hjg : g.1 91 8 = bI jn := by rw [gG.2.1 8 (by omega)]; exact hj
      rw [List.drop_eq_getElem_cons hlt, ← gi_eq hlt] at hE hu
      generalize hp0 : gi Sh j = p at e1 e2 e3 bi ut hE hu
      have hC' : pu jn (adS jn C p) (Sh.drop (j + 1)) = pu jn (L.eraseIdx i) Sh := hE
      have hlen : (adS jn C p).length ≤ 60 := by rw [← hC'] at h60; exact Nat.le_trans (pu_len jn _ _) h60
      have hCl : C.length ≤ 60 := Nat.le_trans (adS_len jn C p) hlen
      have hs2 : uSum (adS jn C p) + uSum (Sh.drop (j + 1)) ≤ 2 ^ 60 := by
        rw [adS_sum]
        simp only [uSum, List.map_cons, List.sum_cons] at hu ⊢
        omega
      have hIW : IW C := (show IX C from ⟨hCl, hX, by omega⟩).iw
      have hX2 := adS_mem (jn := jn) hX bi
      obtain ⟨ca, cb, cc, cd⟩ := id gL
      have hsub : (gi L i).2.2 - uSum (Sh.take j) - p.2.2 = (gi L i).2.2 - uSum (Sh.take (j + 1)) := by omega
      have hsle : p.2.2 ≤ (gi L i).2.2 - uSum (Sh.take j) := by omega
      have back : ∀ (to : Int32) (g' : Mem), ML g' l (adS jn C p) F R → MSh g' Sh → g'.1 98 l = h.1 98 l → g'.1 99 l = h.1 99 l → g'.1 100 l = nI st → GL l h g' → G Y ad mX4_goOn 204 [some (.ref (ad 91)), some (.int (nI l)), some (.int (nI kind)), some (.int (nI i)), some (.int (nI (60 * l + i))), some (.int (nI (gi L i).1)), some (.long (lN ((gi L i).2.2 - uSum (Sh.take (j + 1))))), none, none, some (.int (nI (j + 1))), some (.int to)] [] g' := by
        intro to g' b1 b2 b3 b4 b5 b6
        exact r_f10 (ih (j + 1) g' _ (by omega) (by omega) b1 b2 hC' hX2 hs2 b3 b4 b5 b6)
      have fresh : ixJ jn C p = none → ∀ to : Int32, G Y ad mX4_goOn 253 [some (.ref (ad 91)), some (.int (nI l)), some (.int (nI kind)), some (.int (nI i)), some (.int (nI (60 * l + i))), some (.int (nI (gi L i).1)), some (.long (lN ((gi L i).2.2 - uSum (Sh.take (j + 1))))), none, none, some (.int (nI j)), some (.int to)] [] g := by
        intro hix to
        have ea : adS jn C p = C ++ [p] := by unfold adS; rw [hix]
        rw [ea, List.length_append, List.length_singleton] at hlen
        refine r_ki aX4_goOn_253 ?_
        refine r_il aX4_goOn_255 rfl ?_
        refine r_imulN aX4_goOn_256 ?_
        refine r_al aX4_goOn_257 rfl ?_
        refine r_getR aX4_goOn_258 rfl rfl ?_
        refine r_il aX4_goOn_261 rfl ?_
        refine r_xI aX4_goOn_262 rfl (by omega) ca ?_
        refine r_iaddN aX4_goOn_263 ?_
        refine r_is10 aX4_goOn_264 rfl ?_
        refine r_al aX4_goOn_266 rfl ?_
        refine r_getR aX4_goOn_267 rfl rfl ?_
        refine r_il aX4_goOn_270 rfl ?_
        refine r_dup2 aX4_goOn_271 rfl rfl ?_
        refine r_xI aX4_goOn_272 rfl (by omega) ca ?_
        refine r_ki aX4_goOn_273 ?_
        refine r_iaddN aX4_goOn_274 ?_
        refine r_iast aX4_goOn_275 rfl (by omega) ?_
        refine r_al aX4_goOn_276 rfl ?_
        refine r_getR aX4_goOn_277 rfl rfl ?_
        refine r_il aX4_goOn_280 rfl ?_
        refine r_al aX4_goOn_282 rfl ?_
        refine r_getR aX4_goOn_283 rfl rfl ?_
        refine r_il aX4_goOn_286 rfl ?_
        refine r_xI aX4_goOn_288 rfl (by omega) (Eq.trans (by simp [si_1, si_2, sl_1, sl_2, sri_1, sri_2, srl_1, srl_2]) e1) ?_
        refine r_iast aX4_goOn_289 rfl (by omega) ?_
        refine r_al aX4_goOn_290 rfl ?_
        refine r_getR aX4_goOn_291 rfl rfl ?_
        refine r_il aX4_goOn_294 rfl ?_
        refine r_al aX4_goOn_296 rfl ?_
        refine r_getR aX4_goOn_297 rfl rfl ?_
        refine r_il aX4_goOn_300 rfl ?_
        refine r_xI aX4_goOn_302 rfl (by omega) (Eq.trans (by simp [si_1, si_2, sl_1, sl_2, sri_1, sri_2, srl_1, srl_2]) e2) ?_
        refine r_iast aX4_goOn_303 rfl (by omega) ?_
        refine r_al aX4_goOn_304 rfl ?_
        refine r_getR aX4_goOn_305 rfl rfl ?_
        refine r_il aX4_goOn_308 rfl ?_
        refine r_kl aX4_goOn_310 ?_
        refine r_last aX4_goOn_311 rfl (by omega) ?_
        refine r_al aX4_goOn_312 rfl ?_
        refine r_getR aX4_goOn_313 rfl rfl ?_
        refine r_il aX4_goOn_316 rfl ?_
        refine r_dup2 aX4_goOn_318 rfl rfl ?_
        refine r_xL aX4_goOn_319 rfl (by omega) (v := lN 0) (by rw [sl_row, pk_uLs]) ?_
        refine r_al aX4_goOn_320 rfl ?_
        refine r_getR aX4_goOn_321 rfl rfl ?_
        refine r_il aX4_goOn_324 rfl ?_
        refine r_xL aX4_goOn_326 rfl (by omega) (v := lN p.2.2) (Eq.trans (by rw [sl_o (by omega)]; rfl) e3) ?_
        refine r_laddN aX4_goOn_327 ?_
        refine r_last aX4_goOn_328 rfl (by omega) ?_
        refine r_in9 aX4_goOn_329 rfl ?_
        refine r_go aX4_goOn_332 ?_
        refine back _ _ ⟨?_, ?_, ?_, ?_⟩ ⟨?_, ?_⟩ ?_ ?_ ?_ ?_
        · rw [ea, sl_1, sl_1, si_o (by omega), si_o (by omega), si_row, pk_us, List.length_append]; rfl
        · rw [ea]
          refine cb.push (fun x hx => ?_) (fun x hx => ?_) (fun x hx => ?_) ?_ ?_ ?_
          · rw [sl_1, sl_1, si_o (by omega), si_row, pk_un (by omega), si_o (by omega)]
          · rw [sl_1, sl_1, si_row, pk_un (by omega), si_o (by omega), si_o (by omega)]
          · rw [sl_row, pk_uLn (by omega), sl_row, pk_uLn (by omega)]; rfl
          · rw [sl_1, sl_1, si_o (by omega), si_row, pk_us]
          · rw [sl_1, sl_1, si_row, pk_us]
          · rw [sl_row, pk_uLs, Nat.zero_add]
        · intro x hx; rw [sl_o (by omega), sl_o (by omega)]; exact cc x hx
        · intro x hx; rw [sl_o (by omega), sl_o (by omega)]; exact cd x hx
        · rw [sl_1, sl_1, si_o (by omega), si_o (by omega), si_o (by omega)]; exact gS.1
        · exact gS.2.cong (fun _ _ => by rw [sl_1, sl_1, si_o (by omega), si_o (by omega), si_o (by omega)]) (fun _ _ => by rw [sl_1, sl_1, si_o (by omega), si_o (by omega), si_o (by omega)]) (fun _ _ => by rw [sl_o (by omega), sl_o (by omega)]; rfl)
        · rw [sl_1, sl_1, si_o (by omega), si_o (by omega), si_o (by omega)]; exact g98
        · rw [sl_1, sl_1, si_o (by omega), si_o (by omega), si_o (by omega)]; exact g99
        · rw [sl_1, sl_1, si_o (by omega), si_o (by omega), si_o (by omega)]; exact g100
        · exact gG.tr ((GL.si (by omega)).tr ((GL.si (by omega)).tr ((GL.si (by omega)).tr ((GL.sl (by omega)).tr (GL.sl (by omega))))))
      have joined : ∀ x, ixJ jn C p = some x → G Y ad mX4_goOn 312 [some (.ref (ad 91)), some (.int (nI l)), some (.int (nI kind)), some (.int (nI i)), some (.int (nI (60 * l + i))), some (.int (nI (gi L i).1)), some (.long (lN ((gi L i).2.2 - uSum (Sh.take (j + 1))))), none, none, some (.int (nI j)), some (.int (nI (60 * l + x)))] [] g := by
        intro x hix
        obtain ⟨x1, x2, x3⟩ := ixJ_lt hix
        have ea : adS jn C p = C.set x ((gi C x).1, (gi C x).2.1, (gi C x).2.2 + p.2.2) := by unfold adS; rw [hix]
        obtain ⟨u1, u2, u3⟩ := cb.gi x1
        refine r_al aX4_goOn_312 rfl ?_
        refine r_getR aX4_goOn_313 rfl rfl ?_
        refine r_il aX4_goOn_316 rfl ?_
        refine r_dup2 aX4_goOn_318 rfl rfl ?_
        refine r_xL aX4_goOn_319 rfl (by omega) u3 ?_
        refine r_al aX4_goOn_320 rfl ?_
        refine r_getR aX4_goOn_321 rfl rfl ?_
        refine r_il aX4_goOn_324 rfl ?_
        refine r_xL aX4_goOn_326 rfl (by omega) e3 ?_
        refine r_laddN aX4_goOn_327 ?_
        refine r_last aX4_goOn_328 rfl (by omega) ?_
        refine r_in9 aX4_goOn_329 rfl ?_
        refine r_go aX4_goOn_332 ?_
        refine back _ _ ⟨?_, ?_, ?_, ?_⟩ ⟨gS.1, ?_⟩ g98 g99 g100 ?_
        · rw [ea, List.length_set]; exact ca
        · rw [ea, gi_eq x1]
          refine cb.put x1 (fun _ _ => rfl) (fun _ _ => rfl) (fun y hy hne => ?_) ?_
          · rw [sl_row, pk_uLn (by omega)]
          · rw [sl_row, pk_uLs]
        · intro y hy; rw [sl_o (by omega)]; exact cc y hy
        · intro y hy; rw [sl_o (by omega)]; exact cd y hy
        · exact gS.2.cong (fun _ _ => rfl) (fun _ _ => rfl) (fun _ _ => by rw [sl_o (by omega)])
        · exact gG.tr (GL.sl (by omega))
      refine r_il aX4_goOn_204 rfl ?_
      refine r_al aX4_goOn_206 rfl ?_
      refine r_gI aX4_goOn_207 rfl rfl hs0 ?_
      refine r_n_ge aX4_goOn_210 (by omega) (by omega) (fun c210 => ?_) (fun c210 => ?_)
      · omega
      · -- to 213
        refine r_ll aX4_goOn_213 rfl ?_
        refine r_al aX4_goOn_215 rfl ?_
        refine r_getR aX4_goOn_216 rfl rfl ?_
        refine r_il aX4_goOn_219 rfl ?_
        refine r_xL aX4_goOn_221 rfl (by omega) e3 ?_
        refine r_lsubN aX4_goOn_222 hsle ?_
        refine r_tl (congrArg lN hsub) ?_
        refine r_ls6 aX4_goOn_223 rfl ?_
        refine r_al aX4_goOn_225 rfl ?_
        refine r_il aX4_goOn_226 rfl ?_
        refine r_al aX4_goOn_227 rfl ?_
        refine r_getR aX4_goOn_228 rfl rfl ?_
        refine r_il aX4_goOn_231 rfl ?_
        refine r_xI aX4_goOn_233 rfl (by omega) e1 ?_
        refine r_al aX4_goOn_234 rfl ?_
        refine r_getR aX4_goOn_235 rfl rfl ?_
        refine r_il aX4_goOn_238 rfl ?_
        refine r_xI aX4_goOn_240 rfl (by omega) e2 ?_
        refine r_ki aX4_goOn_241 ?_
        refine r_VI4 aX4_goOn_242 vX4_alike rfl (K_X4_alike hl hIW ca cb hjg bi.1 bi.2 (fun x q1 q2 => absurd q2 (fun z => nI_pos (n := x) (by omega) (by rw [z]; decide)))) (fun x242 h242 Q242 => ?_)
        rw [Q242.1, Q242.2]
        have hixd : (if jn then ixOf p.1 p.2.1 C 0 else none) = ixJ jn C p := rfl
        rw [hixd]
        refine r_is10 aX4_goOn_245 rfl ?_
        refine r_il aX4_goOn_247 rfl ?_
        refine r_ki aX4_goOn_249 ?_
        refine r_c_ne aX4_goOn_250 (fun c250 => ?_) (fun c250 => ?_)
        · -- to 312
          cases hz : ixJ jn C p with
          | none => rw [hz] at c250; exact absurd rfl c250
          | some x => exact joined x hz
        · -- to 253
          cases hz : ixJ jn C p with
          | none => exact fresh hz _
          | some x =>
            rw [hz] at c250
            have := (ixJ_lt hz).1
            exact absurd (show nI (60 * l + x) = -1 from c250) (fun z => nI_pos (n := 60 * l + x) (by omega) (by rw [z]; decide))
  -- the item is taken out
  have phA : ∀ (k j : Nat) (g : Mem), L.length - 1 - i - j = k → j ≤ L.length - 1 - i → g.1 101 l = nI (L.length - 1) → (∀ x, x < 60 → g.1 102 (60 * l + x) = h.1 102 (60 * l + if i ≤ x ∧ x < i + j then x + 1 else x)) → (∀ x, x < 60 → g.1 103 (60 * l + x) = h.1 103 (60 * l + if i ≤ x ∧ x < i + j then x + 1 else x)) → (∀ x, x < 60 → g.2 104 (60 * l + x) = h.2 104 (60 * l + if i ≤ x ∧ x < i + j then x + 1 else x)) → Fr (fun a => 101 ≤ a ∧ a < 105) h g → GL l h g → G Y ad mX4_goOn 131 [some (.ref (ad 91)), some (.int (nI l)), some (.int (nI kind)), some (.int (nI i)), some (.int (nI (60 * l + i))), some (.int (nI (gi L i).1)), some (.long (lN (gi L i).2.2)), none, none, some (.int (nI (60 * l + i + j))), none] [] g := by
    intro k
    induction k with
    | zero =>
      intro j g hk hjl g1 g2 g3 g4 gF gG
      have e : j = L.length - 1 - i := by omega
      have gL : ML g l (L.eraseIdx i) F R := by
        refine ⟨by rw [List.length_eraseIdx, if_pos hi]; exact g1, ?_, fun x hx => by rw [(gF 105 (by omega)).2]; exact hF x hx, fun x hx => by rw [(gF 106 (by omega)).2]; exact hRr x hx⟩
        refine hIt.erase (fun x hx => ?_) (fun x hx => ?_) (fun x hx => ?_) hi
        · rw [g2 x (by omega)]
          by_cases c : x < i
          · rw [if_pos c, if_neg (by omega)]
          · rw [if_neg c, if_pos (by omega)]; rfl
        · rw [g3 x (by omega)]
          by_cases c : x < i
          · rw [if_pos c, if_neg (by omega)]
          · rw [if_neg c, if_pos (by omega)]; rfl
        · rw [g4 x (by omega)]
          by_cases c : x < i
          · rw [if_pos c, if_neg (by omega)]
          · rw [if_neg c, if_pos (by omega)]; rfl
      have gS : MSh g Sh := ⟨by rw [(gF 91 (by omega)).1]; exact hS.1, hS.2.cong (fun _ _ => by rw [(gF 109 (by omega)).1]) (fun _ _ => by rw [(gF 110 (by omega)).1]) (fun _ _ => by rw [(gF 111 (by omega)).2])⟩
      have fin := phB _ 0 g (L.eraseIdx i) rfl (by omega) gL gS rfl (fun p hp => hI.2.1 p (List.mem_of_mem_eraseIdx hp)) (by rw [List.drop_zero]; have := hI.2.2; omega) (by rw [(gF 98 (by omega)).1]) (by rw [(gF 99 (by omega)).1]) (by rw [(gF 100 (by omega)).1]; exact hst) gG
      rw [List.take_zero] at fin
      refine r_il aX4_goOn_131 rfl ?_
      refine r_ki aX4_goOn_133 ?_
      refine r_il aX4_goOn_135 rfl ?_
      refine r_imulN aX4_goOn_136 ?_
      refine r_al aX4_goOn_137 rfl ?_
      refine r_getR aX4_goOn_138 rfl rfl ?_
      refine r_il aX4_goOn_141 rfl ?_
      refine r_xI aX4_goOn_142 rfl (by omega) g1 ?_
      refine r_iaddN aX4_goOn_143 ?_
      refine r_n_ge aX4_goOn_144 (by omega) (by omega) (fun c144 => ?_) (fun c144 => ?_)
      · -- to 201
        refine r_ki aX4_goOn_201 ?_
        refine r_is9 aX4_goOn_202 rfl ?_
        exact fin
      · omega
    | succ k ih =>
      intro j g hk hjl g1 g2 g3 g4 gF gG
      refine r_il aX4_goOn_131 rfl ?_
      refine r_ki aX4_goOn_133 ?_
      refine r_il aX4_goOn_135 rfl ?_
      refine r_imulN aX4_goOn_136 ?_
      refine r_al aX4_goOn_137 rfl ?_
      refine r_getR aX4_goOn_138 rfl rfl ?_
      refine r_il aX4_goOn_141 rfl ?_
      refine r_xI aX4_goOn_142 rfl (by omega) g1 ?_
      refine r_iaddN aX4_goOn_143 ?_
      refine r_n_ge aX4_goOn_144 (by omega) (by omega) (fun c144 => ?_) (fun c144 => ?_)
      · omega
      · -- to 147
        refine r_al aX4_goOn_147 rfl ?_
        refine r_getR aX4_goOn_148 rfl rfl ?_
        refine r_il aX4_goOn_151 rfl ?_
        refine r_al aX4_goOn_153 rfl ?_
        refine r_getR aX4_goOn_154 rfl rfl ?_
        refine r_il aX4_goOn_157 rfl ?_
        refine r_ki aX4_goOn_159 ?_
        refine r_iaddN aX4_goOn_160 ?_
        refine r_iald aX4_goOn_161 rfl (by omega) ?_
        refine r_iast aX4_goOn_162 rfl (by omega) ?_
        refine r_al aX4_goOn_163 rfl ?_
        refine r_getR aX4_goOn_164 rfl rfl ?_
        refine r_il aX4_goOn_167 rfl ?_
        refine r_al aX4_goOn_169 rfl ?_
        refine r_getR aX4_goOn_170 rfl rfl ?_
        refine r_il aX4_goOn_173 rfl ?_
        refine r_ki aX4_goOn_175 ?_
        refine r_iaddN aX4_goOn_176 ?_
        refine r_iald aX4_goOn_177 rfl (by omega) ?_
        refine r_iast aX4_goOn_178 rfl (by omega) ?_
        refine r_al aX4_goOn_179 rfl ?_
        refine r_getR aX4_goOn_180 rfl rfl ?_
        refine r_il aX4_goOn_183 rfl ?_
        refine r_al aX4_goOn_185 rfl ?_
        refine r_getR aX4_goOn_186 rfl rfl ?_
        refine r_il aX4_goOn_189 rfl ?_
        refine r_ki aX4_goOn_191 ?_
        refine r_iaddN aX4_goOn_192 ?_
        refine r_lald aX4_goOn_193 rfl (by omega) ?_
        refine r_last aX4_goOn_194 rfl (by omega) ?_
        refine r_in9 aX4_goOn_195 rfl ?_
        refine r_go aX4_goOn_198 ?_
        refine ih (j + 1) _ (by omega) (by omega) ?_ (fun x hx => ?_) (fun x hx => ?_) (fun x hx => ?_) (gF.tr ((Fr.si ⟨by omega, by omega⟩).tr ((Fr.si ⟨by omega, by omega⟩).tr (Fr.sl ⟨by omega, by omega⟩)))) (gG.tr ((GL.si (by omega)).tr ((GL.si (by omega)).tr (GL.sl (by omega)))))
        · rw [sl_1, si_o (by omega), si_o (by omega)]; exact g1
        · rw [sl_1, si_o (by omega), si_row]
          by_cases e : x = i + j
          · subst e
            rw [show 60 * l + (i + j) = 60 * l + i + j by omega, pk_us, show 60 * l + i + j + 1 = 60 * l + (i + j + 1) by omega, g2 (i + j + 1) (by omega), if_neg (by omega), if_pos (by omega)]
          · rw [pk_un (by omega), g2 x hx]
            by_cases c : i ≤ x ∧ x < i + j
            · rw [if_pos c, if_pos (by omega)]
            · rw [if_neg c, if_neg (by omega)]
        · rw [sl_1, si_row, si_o (by omega)]
          by_cases e : x = i + j
          · subst e
            rw [show 60 * l + (i + j) = 60 * l + i + j by omega, pk_us, show 60 * l + i + j + 1 = 60 * l + (i + j + 1) by omega, g3 (i + j + 1) (by omega), if_neg (by omega), if_pos (by omega)]
          · rw [pk_un (by omega), g3 x hx]
            by_cases c : i ≤ x ∧ x < i + j
            · rw [if_pos c, if_pos (by omega)]
            · rw [if_neg c, if_neg (by omega)]
        · rw [sl_row, si_2, si_2]
          by_cases e : x = i + j
          · subst e
            rw [show 60 * l + (i + j) = 60 * l + i + j by omega, pk_uLs, show 60 * l + i + j + 1 = 60 * l + (i + j + 1) by omega, g4 (i + j + 1) (by omega), if_neg (by omega), if_pos (by omega)]
          · rw [pk_uLn (by omega), g4 x hx]
            by_cases c : i ≤ x ∧ x < i + j
            · rw [if_pos c, if_pos (by omega)]
            · rw [if_neg c, if_neg (by omega)]
  refine r_al aX4_goOn_117 rfl ?_
  refine r_getR aX4_goOn_118 rfl rfl ?_
  refine r_il aX4_goOn_121 rfl ?_
  refine r_dup2 aX4_goOn_122 rfl rfl ?_
  refine r_xI aX4_goOn_123 rfl (by omega) hn ?_
  refine r_ki aX4_goOn_124 ?_
  refine r_isubN aX4_goOn_125 (by omega) ?_
  refine r_iast aX4_goOn_126 rfl (by omega) ?_
  refine r_il aX4_goOn_127 rfl ?_
  refine r_is9 aX4_goOn_129 rfl ?_
  refine phA _ 0 _ rfl (by omega) ?_ (fun x hx => ?_) (fun x hx => ?_) (fun x hx => ?_) (Fr.si ⟨by omega, by omega⟩) (GL.si (by omega))
  · rw [si_row, pk_us]
  · rw [si_o (by omega), if_neg (by omega)]
  · rw [si_o (by omega), if_neg (by omega)]
  · rw [if_neg (by omega)]; rfl
theorem K_X4_goOn {kind st : Nat} {ℓ : Lst} (hl : l < 5) (hW : WW w) (hR : MW h w) (hL : ML h l ℓ.1 ℓ.2.1 ℓ.2.2) (hI : LI w ℓ) (hj : h.1 91 8 = bI jn) (hk : kind ≤ 2) (hst : h.1 100 l = nI st) : Con ad mX4_goOn [.ref (ad 91), .int (nI l), .int (nI kind)] h (qZ fun b h' => b = (goS w jn kind ℓ).isSome ∧ ML h' l ((goS w jn kind ℓ).getD ℓ).1 ((goS w jn kind ℓ).getD ℓ).2.1 ((goS w jn kind ℓ).getD ℓ).2.2 ∧ h'.1 98 l = h.1 98 l ∧ h'.1 99 l = h.1 99 l ∧ h'.1 100 l = nI (st + if (goS w jn kind ℓ).isSome then 1 else 0) ∧ GL l h h') := by
  have hIX := hI.ix hW
  have hIW := hIX.iw
  obtain ⟨L, F, R⟩ := ℓ
  dsimp only at hL hIX hIW
  obtain ⟨i1, i2, i3⟩ := hI
  dsimp only at i1 i2 i3
  have hn20 := hW.n
  obtain ⟨ln, lI, lF, lR⟩ := id hL
  refine Con.mk vX4_goOn.1 vX4_goOn.2.2.2.2 [some (.ref (ad 91)), some (.int (nI l)), some (.int (nI kind)), none, none, none, none, none, none, none, none] rfl (Nat.le_of_ble_eq_true rfl) (fun Y hM => ?_)
  cases hx : nxt kind L with
  | none =>
    have hg : goS w jn kind (L, F, R) = none := by unfold goS; dsimp only; rw [hx]
    rw [hg] at hM
    refine r_al aX4_goOn_0 rfl ?_
    refine r_il aX4_goOn_1 rfl ?_
    refine r_il aX4_goOn_2 rfl ?_
    refine r_VI2 aX4_goOn_3 vX4_next rfl (K_X4_next hl hIW ln lI hk) (fun x3 h3 Q3 => ?_)
    rw [Q3.1, Q3.2, hx]
    refine r_is3 aX4_goOn_6 rfl ?_
    refine r_il aX4_goOn_7 rfl ?_
    refine r_ki aX4_goOn_8 ?_
    refine r_c_ne aX4_goOn_9 (fun c9 => ?_) (fun c9 => ?_)
    · exact absurd rfl c9
    · -- to 12
      refine r_ki aX4_goOn_12 ?_
      exact r_zF hM aX4_goOn_13 rfl ⟨rfl, hL, rfl, rfl, hst, GL.rf⟩
  | some i =>
    have hi := nxt_lt hx
    obtain ⟨e1, e2, e3⟩ := lI.gi hi
    have hm := i2 _ (gi_mem hi)
    have hmu := (hIW.gi hi).2.2
    have ho := hR.2.1 _ hm.1
    have hne1 : ¬ nI i = -1 := fun z => nI_pos (n := i) (by omega) (by rw [z]; decide)
    have hS0 : MSh (si h 91 21 (nI 0)) [] := ⟨by simp [si_1], fun i p hp => by simp at hp⟩
    have hG0 : SG h (si h 91 21 (nI 0)) := ⟨Fr.si (Or.inl rfl), fun j hj => by rw [si_1, if_neg (by omega)]⟩
    have hle : (L.eraseIdx i).length ≤ 60 := by rw [List.length_eraseIdx, if_pos hi]; omega
    have noSh : (∀ (F' R' : Nat → Nat), (∀ o, w.2.1 (gi L i).1 = some o → F' = va_up F o (F o + ((gi L i).2.2 - 0)) ∧ R' = R) → (w.2.1 (gi L i).1 = none → F' = F ∧ R' = va_up R (gi L i).1 (R (gi L i).1 + ((gi L i).2.2 - 0))) → goS w jn kind (L, F, R) = some (L.eraseIdx i, F', R')) → G Y ad mX4_goOn 117 [some (.ref (ad 91)), some (.int (nI l)), some (.int (nI kind)), some (.int (nI i)), some (.int (nI (60 * l + i))), some (.int (nI (gi L i).1)), some (.long (lN (gi L i).2.2)), none, none, none, none] [] (si h 91 21 (nI 0)) := by
      intro hgo
      refine goOn_tail (jn := jn) (st := st) hM hW hl (hR.sg hG0) hi hIX hm.1 (hL.sg hG0) hS0 (fun p hp => by simp at hp) (by simp) hle (by simp [uSum]) (by rw [si_1, if_neg (by omega)]; exact hj) (by rw [si_o (by omega)]; exact hst) ?_
      intro F' R' h' a1 a2 a3 a4 a5 a6 a7
      rw [hgo F' R' a1 a2]
      exact ⟨rfl, a3, by rw [a4, si_o (by omega)], by rw [a5, si_o (by omega)], a6, (hG0.gl (l := l)).tr a7⟩
    cases hz : w.2.1 (gi L i).1 with
    | some o =>
      rw [hz] at ho
      have tail := noSh (fun F' R' a1 a2 => by
        obtain ⟨b1, b2⟩ := a1 o hz
        rw [b1, b2, Nat.sub_zero]
        unfold goS; dsimp only; rw [hx]; dsimp only; rw [hz])
      refine r_al aX4_goOn_0 rfl ?_
      refine r_il aX4_goOn_1 rfl ?_
      refine r_il aX4_goOn_2 rfl ?_
      refine r_VI2 aX4_goOn_3 vX4_next rfl (K_X4_next hl hIW ln lI hk) (fun x3 h3 Q3 => ?_)
      rw [Q3.1, Q3.2, hx]
      refine r_ti (v := nI i) rfl ?_
      refine r_is3 aX4_goOn_6 rfl ?_
      refine r_il aX4_goOn_7 rfl ?_
      refine r_ki aX4_goOn_8 ?_
      refine r_c_ne aX4_goOn_9 (fun c9 => ?_) (fun c9 => absurd c9 hne1)
      refine r_ki aX4_goOn_14 ?_
      refine r_il aX4_goOn_16 rfl ?_
      refine r_imulN aX4_goOn_17 ?_
      refine r_il aX4_goOn_18 rfl ?_
      refine r_iaddN aX4_goOn_19 ?_
      refine r_is4 aX4_goOn_20 rfl ?_
      refine r_al aX4_goOn_22 rfl ?_
      refine r_getR aX4_goOn_23 rfl rfl ?_
      refine r_il aX4_goOn_26 rfl ?_
      refine r_xI aX4_goOn_28 rfl (by omega) e1 ?_
      refine r_is5 aX4_goOn_29 rfl ?_
      refine r_al aX4_goOn_31 rfl ?_
      refine r_getR aX4_goOn_32 rfl rfl ?_
      refine r_il aX4_goOn_35 rfl ?_
      refine r_xL aX4_goOn_37 rfl (by omega) e3 ?_
      refine r_ls6 aX4_goOn_38 rfl ?_
      refine r_al aX4_goOn_40 rfl ?_
      refine r_getR aX4_goOn_41 rfl rfl ?_
      refine r_il aX4_goOn_44 rfl ?_
      refine r_xI aX4_goOn_46 rfl (by omega) ho ?_
      refine r_ki aX4_goOn_47 ?_
      refine r_c_ne aX4_goOn_48 (fun c48 => ?_) (fun c48 => absurd c48 (fun z => nI_pos (n := o) (by have := (hW.2.2.1 _ o hz).1; omega) (by rw [show nI o = -1 from z]; decide)))
      refine r_ki aX4_goOn_67 ?_
      refine r_is8 aX4_goOn_68 rfl ?_
      refine r_al aX4_goOn_70 rfl ?_
      refine r_ki aX4_goOn_71 ?_
      refine r_putI aX4_goOn_72 rfl rfl rfl ?_
      refine r_il aX4_goOn_75 rfl ?_
      refine r_nz_eq aX4_goOn_77 (by omega) (fun c77 => ?_) (fun c77 => absurd rfl c77)
      exact r_f8 tail
    | none =>
      rw [hz] at ho
      have pre : (40 ≤ (gi L i).2.1 → G Y ad mX4_goOn 117 [some (.ref (ad 91)), some (.int (nI l)), some (.int (nI kind)), some (.int (nI i)), some (.int (nI (60 * l + i))), some (.int (nI (gi L i).1)), some (.long (lN (gi L i).2.2)), none, none, none, none] [] (si h 91 21 (nI 0))) → ((gi L i).2.1 < 40 → G Y ad mX4_goOn 80 [some (.ref (ad 91)), some (.int (nI l)), some (.int (nI kind)), some (.int (nI i)), some (.int (nI (60 * l + i))), some (.int (nI (gi L i).1)), some (.long (lN (gi L i).2.2)), none, none, none, none] [] (si h 91 21 (nI 0))) → G Y ad mX4_goOn 0 [some (.ref (ad 91)), some (.int (nI l)), some (.int (nI kind)), none, none, none, none, none, none, none, none] [] h := by
        intro k1 k2
        refine r_al aX4_goOn_0 rfl ?_
        refine r_il aX4_goOn_1 rfl ?_
        refine r_il aX4_goOn_2 rfl ?_
        refine r_VI2 aX4_goOn_3 vX4_next rfl (K_X4_next hl hIW ln lI hk) (fun x3 h3 Q3 => ?_)
        rw [Q3.1, Q3.2, hx]
        refine r_ti (v := nI i) rfl ?_
        refine r_is3 aX4_goOn_6 rfl ?_
        refine r_il aX4_goOn_7 rfl ?_
        refine r_ki aX4_goOn_8 ?_
        refine r_c_ne aX4_goOn_9 (fun c9 => ?_) (fun c9 => absurd c9 hne1)
        refine r_ki aX4_goOn_14 ?_
        refine r_il aX4_goOn_16 rfl ?_
        refine r_imulN aX4_goOn_17 ?_
        refine r_il aX4_goOn_18 rfl ?_
        refine r_iaddN aX4_goOn_19 ?_
        refine r_is4 aX4_goOn_20 rfl ?_
        refine r_al aX4_goOn_22 rfl ?_
        refine r_getR aX4_goOn_23 rfl rfl ?_
        refine r_il aX4_goOn_26 rfl ?_
        refine r_xI aX4_goOn_28 rfl (by omega) e1 ?_
        refine r_is5 aX4_goOn_29 rfl ?_
        refine r_al aX4_goOn_31 rfl ?_
        refine r_getR aX4_goOn_32 rfl rfl ?_
        refine r_il aX4_goOn_35 rfl ?_
        refine r_xL aX4_goOn_37 rfl (by omega) e3 ?_
        refine r_ls6 aX4_goOn_38 rfl ?_
        refine r_al aX4_goOn_40 rfl ?_
        refine r_getR aX4_goOn_41 rfl rfl ?_
        refine r_il aX4_goOn_44 rfl ?_
        refine r_xI aX4_goOn_46 rfl (by omega) ho ?_
        refine r_ki aX4_goOn_47 ?_
        refine r_c_ne aX4_goOn_48 (fun c48 => absurd rfl c48) (fun c48 => ?_)
        refine r_al aX4_goOn_51 rfl ?_
        refine r_getR aX4_goOn_52 rfl rfl ?_
        refine r_il aX4_goOn_55 rfl ?_
        refine r_xI aX4_goOn_57 rfl (by omega) e2 ?_
        refine r_ki aX4_goOn_58 ?_
        refine r_n_ge aX4_goOn_60 (by omega) (by omega) (fun c60 => ?_) (fun c60 => ?_)
        · refine r_ki aX4_goOn_67 ?_
          refine r_is8 aX4_goOn_68 rfl ?_
          refine r_al aX4_goOn_70 rfl ?_
          refine r_ki aX4_goOn_71 ?_
          refine r_putI aX4_goOn_72 rfl rfl rfl ?_
          refine r_il aX4_goOn_75 rfl ?_
          refine r_nz_eq aX4_goOn_77 (by omega) (fun c77 => ?_) (fun c77 => absurd rfl c77)
          exact r_f8 (k1 c60)
        · refine r_ki aX4_goOn_63 ?_
          refine r_go aX4_goOn_64 ?_
          refine r_is8 aX4_goOn_68 rfl ?_
          refine r_al aX4_goOn_70 rfl ?_
          refine r_ki aX4_goOn_71 ?_
          refine r_putI aX4_goOn_72 rfl rfl rfl ?_
          refine r_il aX4_goOn_75 rfl ?_
          refine r_nz_eq aX4_goOn_77 (by omega) (fun c77 => by cases c77) (fun c77 => ?_)
          exact r_f8 (k2 c60)
      refine pre (fun hd => ?_) (fun hd => ?_)
      · exact noSh (fun F' R' a1 a2 => by
          obtain ⟨b1, b2⟩ := a2 hz
          rw [b1, b2, Nat.sub_zero]
          unfold goS; dsimp only; rw [hx]; dsimp only; rw [hz]; dsimp only; rw [if_pos hd])
      · have hM0 := divS_mem (m := (gi L i).2.2) hW hm.1 hd
        have hS0' := divS_sum (d := (gi L i).2.1) (m := (gi L i).2.2) hW hm.1
        have hl0 := divS_len (s := (gi L i).1) (d := (gi L i).2.1) (m := (gi L i).2.2) hW
        have hg0 : goS w jn kind (L, F, R) = if 60 < L.length - 1 + cnt jn L (divS w (gi L i).1 (gi L i).2.1 (gi L i).2.2) then none else some (pu jn (L.eraseIdx i) (divS w (gi L i).1 (gi L i).2.1 (gi L i).2.2), F, va_up R (gi L i).1 (R (gi L i).1 + ((gi L i).2.2 - uSum (divS w (gi L i).1 (gi L i).2.1 (gi L i).2.2)))) := by unfold goS; dsimp only; rw [hx]; dsimp only; rw [hz]; dsimp only; rw [if_neg (by omega)]
        rw [hg0] at hM
        have hcE := cnt_erase (jn := jn) hi (Sh := divS w (gi L i).1 (gi L i).2.1 (gi L i).2.2) (fun p hp => by have := (hM0 p hp).2.2; omega)
        have hpu := pu_cnt jn (L.eraseIdx i) (divS w (gi L i).1 (gi L i).2.1 (gi L i).2.2)
        rw [hcE, List.length_eraseIdx, if_pos hi] at hpu
        have hcl : cnt jn L (divS w (gi L i).1 (gi L i).2.1 (gi L i).2.2) ≤ 32 := by
          unfold cnt
          have := cn_le L (divS w (gi L i).1 (gi L i).2.1 (gi L i).2.2) (divS w (gi L i).1 (gi L i).2.1 (gi L i).2.2).length
          split <;> omega
        have hK := @K_X4_lay ad (si h 91 21 (nI 0)) w (gi L i).1 (gi L i).2.1 (gi L i).2.2 hW (hR.sg hG0) hm.1 hd hmu
        clear hg0
        generalize divS w (gi L i).1 (gi L i).2.1 (gi L i).2.2 = Sh at hM hM0 hS0' hl0 hpu hcl hK hcE
        clear hcE noSh pre
        have hS20 : ∀ p ∈ Sh, p.1 < 20 ∧ p.2.1 ≤ 40 := fun p hp => ⟨by have := (hM0 p hp).1; omega, (hM0 p hp).2.1⟩
        have hc1 : L.length - 1 + cnt jn L Sh < 2147483648 := by omega
        have hc2 : (60 : Nat) < 2147483648 := by decide
        have e2' : (si h 91 21 (nI 0)).1 103 (60 * l + i) = nI (gi L i).2.1 := by rw [si_o (by omega)]; exact e2
        refine r_al aX4_goOn_80 rfl ?_
        refine r_il aX4_goOn_81 rfl ?_
        refine r_al aX4_goOn_83 rfl ?_
        refine r_getR aX4_goOn_84 rfl rfl ?_
        refine r_il aX4_goOn_87 rfl ?_
        refine r_xI aX4_goOn_89 rfl (by omega) e2' ?_
        refine r_ll aX4_goOn_90 rfl ?_
        refine r_VV3 aX4_goOn_92 vX4_lay rfl hK (fun h92 Q92 => ?_)
        obtain ⟨S2, G2⟩ := Q92
        have G3 := hG0.tr G2
        have L2 := hL.sg G3
        have j2 : h92.1 91 8 = bI jn := by rw [G3.2 8 (by omega)]; exact hj
        have st2 : h92.1 100 l = nI st := by rw [(G3.row (by omega) (by omega)).1]; exact hst
        refine r_al aX4_goOn_95 rfl ?_
        refine r_getR aX4_goOn_96 rfl rfl ?_
        refine r_il aX4_goOn_99 rfl ?_
        refine r_xI aX4_goOn_100 rfl (by omega) L2.1 ?_
        refine r_ki aX4_goOn_101 ?_
        refine r_isubN aX4_goOn_102 (by omega) ?_
        refine r_al aX4_goOn_103 rfl ?_
        refine r_il aX4_goOn_104 rfl ?_
        refine r_il aX4_goOn_105 rfl ?_
        refine r_VI2 aX4_goOn_106 vX4_newItems rfl (K_X4_newItems hl hIW L2.1 L2.2.1 j2 S2 hS20 hl0 hi (fun p hp => by have := (hM0 p hp).2.2; omega)) (fun x106 h106 Q106 => ?_)
        rw [Q106.1, Q106.2]
        refine r_iaddN aX4_goOn_109 ?_
        refine r_ki aX4_goOn_110 ?_
        refine r_n_le aX4_goOn_112 hc1 hc2 (fun c112 => ?_) (fun c112 => ?_)
        · rw [if_neg (by omega)] at hM
          refine goOn_tail (jn := jn) (st := st) hM hW hl (hR.sg G3) hi hIX hm.1 L2 S2 hS20 hl0 (by omega) hS0' j2 st2 ?_
          intro F' R' h' a1 a2 a3 a4 a5 a6 a7
          obtain ⟨b1, b2⟩ := a2 hz
          rw [b1, b2] at a3
          exact ⟨rfl, a3, by rw [a4, (G3.row (by omega) (by omega)).1], by rw [a5, (G3.row (by omega) (by omega)).1], a6, (G3.gl (l := l)).tr a7⟩
        · rw [if_pos (by omega)] at hM
          refine r_ki aX4_goOn_115 ?_
          exact r_zF hM aX4_goOn_116 rfl ⟨rfl, L2, by rw [(G3.row (by omega) (by omega)).1], by rw [(G3.row (by omega) (by omega)).1], st2, G3.gl⟩
end MODEL5

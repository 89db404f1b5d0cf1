section MODEL4
variable {ad : Nat → Nat} {h : Mem} {w : Wk} {l : Nat} {L Sh : List Itm} {F R : Nat → Nat} {jn : Bool}
theorem K_X4_lay {s d m : Nat} (hW : WW w) (hR : MW h w) (hs : s < w.1) (hd : d < 40) (hm : m ≤ 2 ^ 60) : Con ad mX4_lay [.ref (ad 91), .int (nI s), .int (nI d), .long (lN m)] h (qV fun h' => MSh h' (divS w s d m) ∧ SG h h') := by
  have h20 := hW.n
  have hlaw := hR.2.2.2.2.2 s hs
  have hlen := hW.len s
  have hto := hW.tot s
  have g0 : SG h (si h 91 21 (nI 0)) := ⟨Fr.si (Or.inl rfl), fun j hj => by rw [si_1, if_neg (by omega)]⟩
  have s0 : MSh (si h 91 21 (nI 0)) [] := ⟨by simp [si_1], fun i p hp => by simp at hp⟩
  refine Con.mk vX4_lay.1 vX4_lay.2.2.2.2 [some (.ref (ad 91)), some (.int (nI s)), some (.int (nI d)), some (.long (lN m)), none, none, none, none, none, none, none, none, none] rfl (Nat.le_of_ble_eq_true rfl) (fun Y hM => ?_)
  have ph2 : ∀ (r a b D : Nat), r < w.1 → a ≤ 16 → 0 < D → D ≤ 256 → (∀ p ∈ w.2.2.1 r, some p.1 ≠ some s → a * p.2 ≤ D) → ∀ (k i : Nat) (g : Mem) (C : List Itm), (w.2.2.1 r).length - i = k → i ≤ (w.2.2.1 r).length → MSh g C → SG h g → C ++ spr m D (some s) (min 40 (d + 2)) a ((w.2.2.1 r).drop i) = divS w s d m → C.length + ((w.2.2.1 r).length - i) ≤ 32 → G Y ad mX4_lay 188 [some (.ref (ad 91)), some (.int (nI s)), some (.int (nI d)), some (.long (lN m)), none, some (.int (nI r)), some (.int (nI a)), some (.int (nI 1)), some (.int (nI b)), some (.long (lN D)), none, some (.int (nI i)), none] [] g := by
    intro r a b D hr ha h0 h1 hwt k
    have hlr := hW.len r
    induction k with
    | zero =>
      intro i g C hk hi hC hG hE hl
      have hn := (hR.sg hG).2.2.1 r hr
      refine r_il aX4_lay_188 rfl ?_
      refine r_nz_eq aX4_lay_190 (by omega) (fun c190 => ?_) (fun c190 => ?_)
      · cases c190
      · -- to 193
        refine r_il aX4_lay_193 rfl ?_
        refine r_al aX4_lay_195 rfl ?_
        refine r_getR aX4_lay_196 rfl rfl ?_
        refine r_il aX4_lay_199 rfl ?_
        refine r_xI aX4_lay_201 rfl (by omega) hn ?_
        refine r_n_ge aX4_lay_202 (by omega) (by omega) (fun c202 => ?_) (fun c202 => ?_)
        · -- to 275
          refine r_vret hM aX4_lay_275 rfl ?_
          rw [List.drop_of_length_le (by omega), spr, List.append_nil] at hE
          rw [← hE]
          exact ⟨hC, hG⟩
        · omega
    | succ k ih =>
      intro i g C hk hi hC hG hE hl
      have hRg := hR.sg hG
      have hn := hRg.2.2.1 r hr
      have hlt : i < (w.2.2.1 r).length := by omega
      obtain ⟨t1, t2⟩ := hRg.2.2.2.1 r hr i _ (List.getElem?_eq_getElem hlt)
      have hmem : (w.2.2.1 r)[i] ∈ w.2.2.1 r := List.getElem_mem hlt
      have b1 := ((hW.2.2.2.1 r).1 _ hmem).1
      have b2 := (hW.2.2.2.1 r).one hmem
      have b3 := hW.tot r
      rw [List.drop_eq_getElem_cons hlt] at hE
      generalize (w.2.2.1 r)[i] = p at t1 t2 hmem b1 b2 hE
      have hap : a * p.2 ≤ 16 * 16 := Nat.mul_le_mul ha (by omega)
      have tail : some p.1 ≠ some s → G Y ad mX4_lay 245 [some (.ref (ad 91)), some (.int (nI s)), some (.int (nI d)), some (.long (lN m)), none, some (.int (nI r)), some (.int (nI a)), some (.int (nI 1)), some (.int (nI b)), some (.long (lN D)), none, some (.int (nI i)), some (.int (nI p.1))] [.int (nI (min 40 (d + 2))), .int (nI p.1), .ref (ad 91)] g := by
        intro hx
        refine r_ll aX4_lay_245 rfl ?_
        refine r_il aX4_lay_246 rfl ?_
        refine r_i2lN aX4_lay_248 (by omega) ?_
        refine r_al aX4_lay_249 rfl ?_
        refine r_getR aX4_lay_250 rfl rfl ?_
        refine r_ki aX4_lay_253 ?_
        refine r_il aX4_lay_255 rfl ?_
        refine r_imulN aX4_lay_257 ?_
        refine r_il aX4_lay_258 rfl ?_
        refine r_iaddN aX4_lay_260 ?_
        refine r_xI aX4_lay_261 rfl (by omega) t2 ?_
        refine r_i2lN aX4_lay_262 (by omega) ?_
        refine r_lmulN aX4_lay_263 ?_
        refine r_ll aX4_lay_264 rfl ?_
        refine r_VV5 aX4_lay_266 vX4_share rfl (K_X4_share hC (by omega) hm h0 h1 (hwt p hmem hx)) (fun h266 Q266 => ?_)
        refine r_in11 aX4_lay_269 rfl ?_
        refine r_go aX4_lay_272 ?_
        refine r_f12 ?_
        refine ih (i + 1) h266 _ (by omega) (by omega) Q266.1 (hG.tr Q266.2) ?_ ?_
        · rw [← hE, spr]
          by_cases z : por m (a * p.2) D = 0
          · rw [if_pos z, if_pos (Or.inr z)]
          · rw [if_neg z, if_neg (fun q => q.elim hx z), List.append_assoc]; rfl
        · split
          · omega
          · rw [List.length_append, List.length_singleton]; omega
      refine r_il aX4_lay_188 rfl ?_
      refine r_nz_eq aX4_lay_190 (by omega) (fun c190 => ?_) (fun c190 => ?_)
      · cases c190
      · -- to 193
        refine r_il aX4_lay_193 rfl ?_
        refine r_al aX4_lay_195 rfl ?_
        refine r_getR aX4_lay_196 rfl rfl ?_
        refine r_il aX4_lay_199 rfl ?_
        refine r_xI aX4_lay_201 rfl (by omega) hn ?_
        refine r_n_ge aX4_lay_202 (by omega) (by omega) (fun c202 => ?_) (fun c202 => ?_)
        · omega
        · -- to 205
          refine r_al aX4_lay_205 rfl ?_
          refine r_getR aX4_lay_206 rfl rfl ?_
          refine r_ki aX4_lay_209 ?_
          refine r_il aX4_lay_211 rfl ?_
          refine r_imulN aX4_lay_213 ?_
          refine r_il aX4_lay_214 rfl ?_
          refine r_iaddN aX4_lay_216 ?_
          refine r_xI aX4_lay_217 rfl (by omega) t1 ?_
          refine r_is12 aX4_lay_218 rfl ?_
          refine r_il aX4_lay_220 rfl ?_
          refine r_il aX4_lay_222 rfl ?_
          refine r_n_eq aX4_lay_223 (by omega) (by omega) (fun c223 => ?_) (fun c223 => ?_)
          · -- to 269
            refine r_in11 aX4_lay_269 rfl ?_
            refine r_go aX4_lay_272 ?_
            refine r_f12 ?_
            rw [spr, if_pos (Or.inl (congrArg some c223))] at hE
            exact ih (i + 1) g C (by omega) (by omega) hC hG hE (by omega)
          · -- to 226
            refine r_al aX4_lay_226 rfl ?_
            refine r_il aX4_lay_227 rfl ?_
            refine r_il aX4_lay_229 rfl ?_
            refine r_ki aX4_lay_230 ?_
            refine r_iaddN aX4_lay_231 ?_
            refine r_ki aX4_lay_232 ?_
            refine r_n_le aX4_lay_234 (by omega) (by omega) (fun c234 => ?_) (fun c234 => ?_)
            · -- to 242
              refine r_il aX4_lay_242 rfl ?_
              refine r_ki aX4_lay_243 ?_
              refine r_iaddN aX4_lay_244 ?_
              have e : min 40 (d + 2) = d + 2 := by omega
              rw [e] at tail
              exact tail (fun z => c223 (Option.some.inj z))
            · -- to 237
              refine r_ki aX4_lay_237 ?_
              refine r_go aX4_lay_239 ?_
              have e : min 40 (d + 2) = 40 := by omega
              rw [e] at tail
              exact tail (fun z => c223 (Option.some.inj z))
  have ph1 : ∀ (ex : Option Nat) (a b D f rg : Nat), (∀ n, ex = some n → n < 20) → f ≤ 16 → (f = if rg = 0 then 1 else 16) → rg ≤ 1 → 0 < D → D ≤ 256 → (∀ p ∈ w.2.2.1 s, some p.1 ≠ ex → f * p.2 ≤ D) → (∀ (g : Mem) (C : List Itm), MSh g C → SG h g → C = spr m D ex (d + 1) f (w.2.2.1 s) → G Y ad mX4_lay 188 [some (.ref (ad 91)), some (.int (nI s)), some (.int (nI d)), some (.long (lN m)), none, some (.int (oI ex)), some (.int (nI a)), some (.int (nI rg)), some (.int (nI b)), some (.long (lN D)), none, some (.int (nI 0)), none] [] g) → ∀ (k i : Nat) (g : Mem) (C : List Itm), (w.2.2.1 s).length - i = k → i ≤ (w.2.2.1 s).length → MSh g C → SG h g → C ++ spr m D ex (d + 1) f ((w.2.2.1 s).drop i) = spr m D ex (d + 1) f (w.2.2.1 s) → C.length ≤ i → G Y ad mX4_lay 109 [some (.ref (ad 91)), some (.int (nI s)), some (.int (nI d)), some (.long (lN m)), none, some (.int (oI ex)), some (.int (nI a)), some (.int (nI rg)), some (.int (nI b)), some (.long (lN D)), none, some (.int (nI i)), none] [] g := by
    intro ex a b D f rg hex hf hfr hrg h0 h1 hwt out k
    induction k with
    | zero =>
      intro i g C hk hi hC hG hE hl
      have hn := (hR.sg hG).2.2.1 s hs
      refine r_il aX4_lay_109 rfl ?_
      refine r_al aX4_lay_111 rfl ?_
      refine r_getR aX4_lay_112 rfl rfl ?_
      refine r_il aX4_lay_115 rfl ?_
      refine r_xI aX4_lay_116 rfl (by omega) hn ?_
      refine r_n_ge aX4_lay_117 (by omega) (by omega) (fun c117 => ?_) (fun c117 => ?_)
      · -- to 185
        refine r_ki aX4_lay_185 ?_
        refine r_is11 aX4_lay_186 rfl ?_
        rw [List.drop_of_length_le (by omega), spr, List.append_nil] at hE
        exact out g C hC hG hE
      · omega
    | succ k ih =>
      intro i g C hk hi hC hG hE hl
      have hRg := hR.sg hG
      have hn := hRg.2.2.1 s hs
      have hlt : i < (w.2.2.1 s).length := by omega
      obtain ⟨t1, t2⟩ := hRg.2.2.2.1 s hs i _ (List.getElem?_eq_getElem hlt)
      have hmem : (w.2.2.1 s)[i] ∈ w.2.2.1 s := List.getElem_mem hlt
      have b1 := ((hW.2.2.2.1 s).1 _ hmem).1
      have b2 := (hW.2.2.2.1 s).one hmem
      rw [List.drop_eq_getElem_cons hlt] at hE
      generalize (w.2.2.1 s)[i] = p at t1 t2 hmem b1 b2 hE
      have hfp : f * p.2 ≤ 16 * 16 := Nat.mul_le_mul hf (by omega)
      have tail : some p.1 ≠ ex → G Y ad mX4_lay 160 [some (.ref (ad 91)), some (.int (nI s)), some (.int (nI d)), some (.long (lN m)), none, some (.int (oI ex)), some (.int (nI a)), some (.int (nI rg)), some (.int (nI b)), some (.long (lN D)), none, some (.int (nI i)), some (.int (nI p.1))] [.long (lN f), .long (lN m), .int (nI (d + 1)), .int (nI p.1), .ref (ad 91)] g := by
        intro hx
        refine r_al aX4_lay_160 rfl ?_
        refine r_getR aX4_lay_161 rfl rfl ?_
        refine r_ki aX4_lay_164 ?_
        refine r_il aX4_lay_166 rfl ?_
        refine r_imulN aX4_lay_167 ?_
        refine r_il aX4_lay_168 rfl ?_
        refine r_iaddN aX4_lay_170 ?_
        refine r_xI aX4_lay_171 rfl (by omega) t2 ?_
        refine r_i2lN aX4_lay_172 (by omega) ?_
        refine r_lmulN aX4_lay_173 ?_
        refine r_ll aX4_lay_174 rfl ?_
        refine r_VV5 aX4_lay_176 vX4_share rfl (K_X4_share hC (by omega) hm h0 h1 (hwt p hmem hx)) (fun h176 Q176 => ?_)
        refine r_in11 aX4_lay_179 rfl ?_
        refine r_go aX4_lay_182 ?_
        refine r_f12 ?_
        refine ih (i + 1) h176 _ (by omega) (by omega) Q176.1 (hG.tr Q176.2) ?_ ?_
        · rw [← hE, spr]
          by_cases z : por m (f * p.2) D = 0
          · rw [if_pos z, if_pos (Or.inr z)]
          · rw [if_neg z, if_neg (fun q => q.elim hx z), List.append_assoc]; rfl
        · split
          · omega
          · rw [List.length_append, List.length_singleton]; omega
      refine r_il aX4_lay_109 rfl ?_
      refine r_al aX4_lay_111 rfl ?_
      refine r_getR aX4_lay_112 rfl rfl ?_
      refine r_il aX4_lay_115 rfl ?_
      refine r_xI aX4_lay_116 rfl (by omega) hn ?_
      refine r_n_ge aX4_lay_117 (by omega) (by omega) (fun c117 => ?_) (fun c117 => ?_)
      · omega
      · -- to 120
        refine r_al aX4_lay_120 rfl ?_
        refine r_getR aX4_lay_121 rfl rfl ?_
        refine r_ki aX4_lay_124 ?_
        refine r_il aX4_lay_126 rfl ?_
        refine r_imulN aX4_lay_127 ?_
        refine r_il aX4_lay_128 rfl ?_
        refine r_iaddN aX4_lay_130 ?_
        refine r_xI aX4_lay_131 rfl (by omega) t1 ?_
        refine r_is12 aX4_lay_132 rfl ?_
        refine r_il aX4_lay_134 rfl ?_
        refine r_il aX4_lay_136 rfl ?_
        refine r_c_eq aX4_lay_138 (fun c138 => ?_) (fun c138 => ?_)
        · -- to 179
          refine r_in11 aX4_lay_179 rfl ?_
          refine r_go aX4_lay_182 ?_
          have hx : some p.1 = ex := by
            cases ex with
            | none => exact absurd (show nI p.1 = -1 from c138) (fun z => nI_pos (n := p.1) (by omega) (by rw [z]; decide))
            | some n => exact congrArg some ((nI_eq (by omega) (by have := hex n rfl; omega)).mp c138)
          refine r_f12 ?_
          rw [spr, if_pos (Or.inl hx)] at hE
          exact ih (i + 1) g C (by omega) (by omega) hC hG hE (by omega)
        · -- to 141
          refine r_al aX4_lay_141 rfl ?_
          refine r_il aX4_lay_142 rfl ?_
          refine r_il aX4_lay_144 rfl ?_
          refine r_ki aX4_lay_145 ?_
          refine r_iaddN aX4_lay_146 ?_
          refine r_ll aX4_lay_147 rfl ?_
          refine r_il aX4_lay_148 rfl ?_
          refine r_nz_eq aX4_lay_150 (by omega) (fun c150 => ?_) (fun c150 => ?_)
          · -- to 159
            refine r_kl aX4_lay_159 ?_
            rw [if_pos c150] at hfr
            subst hfr
            exact tail (fun z => c138 (by rw [← z]; rfl))
          · -- to 153
            refine r_kl aX4_lay_153 ?_
            refine r_go aX4_lay_156 ?_
            rw [if_neg c150] at hfr
            subst hfr
            exact tail (fun z => c138 (by rw [← z]; rfl))
  cases hl : w.2.2.2 s with
  | none =>
    rw [hl] at hlaw
    have hdv : divS w s d m = spr m 16 none (d + 1) 1 (w.2.2.1 s) := by unfold divS; rw [hl]
    have go := ph1 none 0 0 16 1 0 (fun n z => by cases z) (by omega) rfl (by omega) (by omega) (by omega) (fun p hp _ => by have := (hW.2.2.2.1 s).one hp; omega) (fun g C hC hG hE => by
      refine r_il aX4_lay_188 rfl ?_
      refine r_nz_eq aX4_lay_190 (by omega) (fun c190 => ?_) (fun c190 => ?_)
      · -- to 275
        exact r_vret hM aX4_lay_275 rfl ⟨by rw [hdv, ← hE]; exact hC, hG⟩
      · exact absurd rfl c190
      ) _ 0 _ [] rfl (by omega) s0 g0 rfl (by simp)
    refine r_al aX4_lay_0 rfl ?_
    refine r_ki aX4_lay_1 ?_
    refine r_putI aX4_lay_2 rfl rfl rfl ?_
    refine r_al aX4_lay_5 rfl ?_
    refine r_getR aX4_lay_6 rfl rfl ?_
    refine r_il aX4_lay_9 rfl ?_
    refine r_xI aX4_lay_10 rfl (by omega) (Eq.trans (by simp [si_1, si_2, sl_1, sl_2, sri_1, sri_2, srl_1, srl_2]) hlaw) ?_
    refine r_is5 aX4_lay_11 rfl ?_
    refine r_il aX4_lay_13 rfl ?_
    refine r_ki aX4_lay_15 ?_
    refine r_c_ne aX4_lay_16 (fun c16 => ?_) (fun c16 => ?_)
    · exact absurd rfl c16
    · -- to 19
      refine r_ki aX4_lay_19 ?_
      refine r_go aX4_lay_20 ?_
      refine r_is6 aX4_lay_35 rfl ?_
      refine r_il aX4_lay_37 rfl ?_
      refine r_ki aX4_lay_39 ?_
      refine r_c_eq aX4_lay_40 (fun c40 => ?_) (fun c40 => ?_)
      · -- to 53
        refine r_ki aX4_lay_53 ?_
        refine r_is7 aX4_lay_54 rfl ?_
        refine r_il aX4_lay_56 rfl ?_
        refine r_nz_eq aX4_lay_58 (by omega) (fun c58 => ?_) (fun c58 => ?_)
        · -- to 76
          refine r_ki aX4_lay_76 ?_
          refine r_is8 aX4_lay_77 rfl ?_
          refine r_il aX4_lay_79 rfl ?_
          refine r_nz_eq aX4_lay_81 (by omega) (fun c81 => ?_) (fun c81 => ?_)
          · -- to 97
            refine r_kl aX4_lay_97 ?_
            refine r_il aX4_lay_100 rfl ?_
            refine r_i2lN aX4_lay_102 (by omega) ?_
            refine r_lsubN aX4_lay_103 (by omega) ?_
            refine r_ls9 aX4_lay_104 rfl ?_
            refine r_ki aX4_lay_106 ?_
            refine r_is11 aX4_lay_107 rfl ?_
            exact go
          · exact absurd rfl c81
        · exact absurd rfl c58
      · exact absurd rfl c40
  | some r =>
    rw [hl] at hlaw
    obtain ⟨hr, hok⟩ := hW.2.2.2.2.1 s r hs hl
    have a16 := hW.wt s r
    have hneg : ¬ oI (some r) = -1 := fun z => nI_pos (n := r) (by omega) (by rw [show nI r = -1 from z]; decide)
    have hR1 := hR.sg g0
    have arw : ∀ x y, x < w.1 → y < w.1 → 0 < wt y (w.2.2.1 x) → ∃ i, i < 16 ∧ (aIx y (w.2.2.1 x) 0) = some i ∧ (si h 91 21 (nI 0)).1 95 (20 * x + i) = nI (wt y (w.2.2.1 x)) := by
      intro x y hx hy hw
      cases hz : aIx y (w.2.2.1 x) 0 with
      | none => rw [(aIx_none y _ 0 hz).1] at hw; omega
      | some i =>
        obtain ⟨-, i1, i2⟩ := aIx_wt y _ 0 i hz
        rw [Nat.sub_zero] at i2
        have := hW.len x
        exact ⟨i, by omega, rfl, (hR1.2.2.2.1 x hx i _ i2).2⟩
    by_cases hrs : r = s
    · subst hrs
      rw [LawOk, if_pos rfl] at hok
      obtain ⟨k1, k2, k3⟩ := hok
      obtain ⟨i, hi, hix, e95⟩ := arw r r hr hr k2
      have hdv : divS w r d m = spr m (16 - wt r (w.2.2.1 r)) (some r) (d + 1) 1 (w.2.2.1 r) := by unfold divS; rw [hl]; dsimp only; rw [if_pos rfl]
      have go := ph1 (some r) (wt r (w.2.2.1 r)) 0 (16 - wt r (w.2.2.1 r)) 1 0 (fun n z => by cases z; omega) (by omega) rfl (by omega) (by omega) (by omega) (fun p hp hne => by have := (hW.2.2.2.1 r).other (t := r) p hp (fun z => hne (congrArg some z)); omega) (fun g C hC hG hE => by
        refine r_il aX4_lay_188 rfl ?_
        refine r_nz_eq aX4_lay_190 (by omega) (fun c190 => ?_) (fun c190 => ?_)
        · -- to 275
          exact r_vret hM aX4_lay_275 rfl ⟨by rw [hdv, ← hE]; exact hC, hG⟩
        · exact absurd rfl c190
        ) _ 0 _ [] rfl (by omega) s0 g0 rfl (by simp)
      refine r_al aX4_lay_0 rfl ?_
      refine r_ki aX4_lay_1 ?_
      refine r_putI aX4_lay_2 rfl rfl rfl ?_
      refine r_al aX4_lay_5 rfl ?_
      refine r_getR aX4_lay_6 rfl rfl ?_
      refine r_il aX4_lay_9 rfl ?_
      refine r_xI aX4_lay_10 rfl (by omega) (Eq.trans (by simp [si_1, si_2, sl_1, sl_2, sri_1, sri_2, srl_1, srl_2]) hlaw) ?_
      refine r_is5 aX4_lay_11 rfl ?_
      refine r_il aX4_lay_13 rfl ?_
      refine r_ki aX4_lay_15 ?_
      refine r_c_ne aX4_lay_16 (fun c16 => ?_) (fun c16 => ?_)
      · -- to 23
        refine r_al aX4_lay_23 rfl ?_
        refine r_getR aX4_lay_24 rfl rfl ?_
        refine r_al aX4_lay_27 rfl ?_
        refine r_il aX4_lay_28 rfl ?_
        refine r_il aX4_lay_29 rfl ?_
        refine r_VI2 aX4_lay_31 vX4_arrowOf rfl (K_X4_arrowOf hW hR1 hr (by omega)) (fun x31 h31 Q31 => ?_)
        rw [Q31.1, Q31.2, hix]
        refine r_xI (j := 20 * r + i) aX4_lay_34 rfl (by omega) e95 ?_
        refine r_is6 aX4_lay_35 rfl ?_
        refine r_il aX4_lay_37 rfl ?_
        refine r_ki aX4_lay_39 ?_
        refine r_c_eq aX4_lay_40 (fun c40 => ?_) (fun c40 => ?_)
        · exact absurd c40 hneg
        · -- to 43
          refine r_il aX4_lay_43 rfl ?_
          refine r_il aX4_lay_45 rfl ?_
          refine r_c_eq aX4_lay_46 (fun c46 => ?_) (fun c46 => ?_)
          · -- to 53
            refine r_ki aX4_lay_53 ?_
            refine r_is7 aX4_lay_54 rfl ?_
            refine r_il aX4_lay_56 rfl ?_
            refine r_nz_eq aX4_lay_58 (by omega) (fun c58 => ?_) (fun c58 => ?_)
            · -- to 76
              refine r_ki aX4_lay_76 ?_
              refine r_is8 aX4_lay_77 rfl ?_
              refine r_il aX4_lay_79 rfl ?_
              refine r_nz_eq aX4_lay_81 (by omega) (fun c81 => ?_) (fun c81 => ?_)
              · -- to 97
                refine r_kl aX4_lay_97 ?_
                refine r_il aX4_lay_100 rfl ?_
                refine r_i2lN aX4_lay_102 (by omega) ?_
                refine r_lsubN aX4_lay_103 (by omega) ?_
                refine r_ls9 aX4_lay_104 rfl ?_
                refine r_ki aX4_lay_106 ?_
                refine r_is11 aX4_lay_107 rfl ?_
                exact go
              · exact absurd rfl c81
            · exact absurd rfl c58
          · exact absurd (show nI r = nI r from rfl) (fun z => c46 z)
      · exact absurd c16 hneg
    · rw [LawOk, if_neg hrs] at hok
      obtain ⟨k1, k2, k3, k4, k5, k6, k7⟩ := hok
      obtain ⟨i, hi, hix, e95⟩ := arw s r hs hr k3
      obtain ⟨j, hj, hjx, f95⟩ := arw r s hr hs k4
      have b16 := hW.wt r s
      have hlr := hW.len r
      have hdv : divS w s d m = spr m (256 - wt r (w.2.2.1 s) * wt s (w.2.2.1 r)) (some r) (d + 1) 16 (w.2.2.1 s) ++ spr m (256 - wt r (w.2.2.1 s) * wt s (w.2.2.1 r)) (some s) (min 40 (d + 2)) (wt r (w.2.2.1 s)) (w.2.2.1 r) := by unfold divS; rw [hl]; dsimp only; rw [if_neg hrs]
      generalize ha : wt r (w.2.2.1 s) = a at k3 k5 a16 e95 hdv
      generalize hbb : wt s (w.2.2.1 r) = b at k4 k5 b16 f95 hdv
      have hab : a * b ≤ a * 16 := Nat.mul_le_mul_left _ b16
      have hba : a * b ≤ 16 * b := Nat.mul_le_mul_right _ a16
      have go := ph1 (some r) a b (256 - a * b) 16 1 (fun n z => by cases z; omega) (by omega) rfl (by omega) (by omega) (by omega) (fun p hp hne => by have := (hW.2.2.2.1 s).other (t := r) p hp (fun z => hne (congrArg some z)); omega) (fun g C hC hG hE => by
        refine ph2 r a b (256 - a * b) hr a16 (by omega) (by omega) (fun p hp hne => by have h7 := (hW.2.2.2.1 r).other (t := s) p hp (fun z => hne (congrArg some z)); have h8 : a * p.2 ≤ a * (16 - b) := Nat.mul_le_mul_left _ (by omega); rw [Nat.mul_sub] at h8; omega) _ 0 g C rfl (by omega) hC hG (by rw [hdv, hE, List.drop_zero]) ?_
        have := spr_len m (256 - a * b) (some r) (d + 1) 16 (w.2.2.1 s)
        rw [hE]
        omega) _ 0 _ [] rfl (by omega) s0 g0 rfl (by simp)
      refine r_al aX4_lay_0 rfl ?_
      refine r_ki aX4_lay_1 ?_
      refine r_putI aX4_lay_2 rfl rfl rfl ?_
      refine r_al aX4_lay_5 rfl ?_
      refine r_getR aX4_lay_6 rfl rfl ?_
      refine r_il aX4_lay_9 rfl ?_
      refine r_xI aX4_lay_10 rfl (by omega) (Eq.trans (by simp [si_1, si_2, sl_1, sl_2, sri_1, sri_2, srl_1, srl_2]) hlaw) ?_
      refine r_is5 aX4_lay_11 rfl ?_
      refine r_il aX4_lay_13 rfl ?_
      refine r_ki aX4_lay_15 ?_
      refine r_c_ne aX4_lay_16 (fun c16 => ?_) (fun c16 => ?_)
      · -- to 23
        refine r_al aX4_lay_23 rfl ?_
        refine r_getR aX4_lay_24 rfl rfl ?_
        refine r_al aX4_lay_27 rfl ?_
        refine r_il aX4_lay_28 rfl ?_
        refine r_il aX4_lay_29 rfl ?_
        refine r_VI2 aX4_lay_31 vX4_arrowOf rfl (K_X4_arrowOf hW hR1 hs (by omega)) (fun x31 h31 Q31 => ?_)
        rw [Q31.1, Q31.2, hix]
        refine r_xI (j := 20 * s + i) aX4_lay_34 rfl (by omega) e95 ?_
        refine r_is6 aX4_lay_35 rfl ?_
        refine r_il aX4_lay_37 rfl ?_
        refine r_ki aX4_lay_39 ?_
        refine r_c_eq aX4_lay_40 (fun c40 => ?_) (fun c40 => ?_)
        · exact absurd c40 hneg
        · -- to 43
          refine r_il aX4_lay_43 rfl ?_
          refine r_il aX4_lay_45 rfl ?_
          refine r_c_eq aX4_lay_46 (fun c46 => ?_) (fun c46 => ?_)
          · exact absurd ((nI_eq (by omega) (by omega)).mp c46) hrs
          · -- to 49
            refine r_ki aX4_lay_49 ?_
            refine r_go aX4_lay_50 ?_
            refine r_is7 aX4_lay_54 rfl ?_
            refine r_il aX4_lay_56 rfl ?_
            refine r_nz_eq aX4_lay_58 (by omega) (fun c58 => ?_) (fun c58 => ?_)
            · cases c58
            · -- to 61
              refine r_al aX4_lay_61 rfl ?_
              refine r_getR aX4_lay_62 rfl rfl ?_
              refine r_al aX4_lay_65 rfl ?_
              refine r_il aX4_lay_66 rfl ?_
              refine r_il aX4_lay_68 rfl ?_
              refine r_VI2 aX4_lay_69 vX4_arrowOf rfl (K_X4_arrowOf hW hR1 hr (by omega)) (fun x69 h69 Q69 => ?_)
              rw [Q69.1, Q69.2, hjx]
              refine r_xI (j := 20 * r + j) aX4_lay_72 rfl (by omega) f95 ?_
              refine r_go aX4_lay_73 ?_
              refine r_is8 aX4_lay_77 rfl ?_
              refine r_il aX4_lay_79 rfl ?_
              refine r_nz_eq aX4_lay_81 (by omega) (fun c81 => ?_) (fun c81 => ?_)
              · cases c81
              · -- to 84
                refine r_kl aX4_lay_84 ?_
                refine r_il aX4_lay_87 rfl ?_
                refine r_il aX4_lay_89 rfl ?_
                refine r_imulN aX4_lay_91 ?_
                refine r_i2lN aX4_lay_92 (by omega) ?_
                refine r_lsubN aX4_lay_93 (by omega) ?_
                refine r_go aX4_lay_94 ?_
                refine r_ls9 aX4_lay_104 rfl ?_
                refine r_ki aX4_lay_106 ?_
                refine r_is11 aX4_lay_107 rfl ?_
                exact go
      · exact absurd c16 hneg
end MODEL4

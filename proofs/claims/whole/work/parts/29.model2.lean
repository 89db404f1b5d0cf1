def ML (h : Mem) (l : Nat) (L : List Itm) (F R : Nat → Nat) : Prop := h.1 101 l = nI L.length ∧ Items h 102 103 104 (60 * l) L ∧ Nums h 105 (8 * l) 8 F ∧ Nums h 106 (20 * l) 20 R
theorem ML.cong {h h' : Mem} {l : Nat} {L : List Itm} {F R : Nat → Nat} (H : ML h l L F R) (f : ∀ a, 101 ≤ a → a < 107 → h'.1 a = h.1 a ∧ h'.2 a = h.2 a) : ML h' l L F R := by
  obtain ⟨a, b, c, d⟩ := H
  exact ⟨by rw [(f 101 (by omega) (by omega)).1]; exact a, b.cong (fun _ _ => by rw [(f 102 (by omega) (by omega)).1]) (fun _ _ => by rw [(f 103 (by omega) (by omega)).1]) (fun _ _ => by rw [(f 104 (by omega) (by omega)).2]), fun i hi => by rw [(f 105 (by omega) (by omega)).2]; exact c i hi, fun i hi => by rw [(f 106 (by omega) (by omega)).2]; exact d i hi⟩
theorem ML.lk {h h' : Mem} {l : Nat} {L : List Itm} {F R : Nat → Nat} (H : ML h l L F R) (K : Lk h h') : ML h' l L F R := H.cong (fun a h1 h2 => ⟨K.row (by omega) (by omega) (by omega), by rw [K.2.1]⟩)
def MS (h : Mem) (w : Wk) : Prop := MV h w ∧ h.1 91 18 = bI true
theorem MS.k {h : Mem} {w : Wk} (H : MS h w) : MK h w := ⟨true, H.2, fun _ => H.1⟩
theorem nI_or1 (p : Nat) : nI (2 * p) ||| nI 1 = nI (2 * p + 1) := by
  have e : 2 * p + 1 = 2 * p ||| 1 := Nat.two_pow_add_eq_or_of_lt (i := 1) (by decide) p
  rw [e]
  apply Int32.toBitVec_inj.1
  show BitVec.ofNat 32 (2 * p) ||| BitVec.ofNat 32 1 = BitVec.ofNat 32 (2 * p ||| 1)
  apply BitVec.eq_of_getLsbD_eq
  intro i hi
  rw [BitVec.getLsbD_or, BitVec.getLsbD_ofNat, BitVec.getLsbD_ofNat, BitVec.getLsbD_ofNat, Nat.testBit_or]
  simp [hi]
section MODEL2
variable {ad : Nat → Nat} {h : Mem} {w : Wk}
theorem K_X4_look (hW : WW w) (hR : MW h w) (hK : MK h w) : Con ad mX4_look [.ref (ad 91)] h (qV fun h' => MS h' w ∧ Lk h h') := by
  have h20 := hW.n
  obtain ⟨lk, k1, k2⟩ := hK
  refine Con.mk vX4_look.1 vX4_look.2.2.2.2 [some (.ref (ad 91)), none, none, none] rfl (Nat.le_of_ble_eq_true rfl) (fun Y hM => ?_)
  have lkI : ∀ {g : Mem} {a i : Nat} {x : Int32}, (a = 107 ∨ a = 108) → Lk h g → Lk h (si g a i x) := fun ha H => ⟨H.1.tr (Fr.si (Or.inr ha)), H.2.1, fun j hj => by rw [si_o (by omega)]; exact H.2.2 j hj⟩
  have s18 : ∀ {g : Mem} {a i : Nat} {x : Int32}, (a = 107 ∨ a = 108) → g.1 91 18 = bI true → (si g a i x).1 91 18 = bI true := fun ha H => by rw [si_o (by omega)]; exact H
  have p2in : ∀ (s : Nat) (to : Int32), s < w.1 → (∀ t, t < w.1 → bitAt to t = rB w s t) → (∀ g : Mem, Lk h g → g.1 91 18 = bI true → (∀ s, s < w.1 → g.1 107 s = rm w s) → (∀ s', s' < s + 1 → g.1 108 s' = bI (su w s')) → G Y ad mX4_look 100 [some (.ref (ad 91)), some (.int (nI (s + 1))), none, none] [] g) → ∀ (k t : Nat) (g : Mem), w.1 - t = k → t ≤ w.1 → Lk h g → g.1 91 18 = bI true → (∀ s, s < w.1 → g.1 107 s = rm w s) → (∀ s', s' < s → g.1 108 s' = bI (su w s')) → g.1 108 s = bI (suU w s t) → G Y ad mX4_look 123 [some (.ref (ad 91)), some (.int (nI s)), some (.int to), some (.int (nI t))] [] g := by
    intro s to hs hto out k
    induction k with
    | zero =>
      intro t g hk ht hL g18 gm gs gt
      have hn := (hR.lk hL).1
      have e : t = w.1 := by omega
      subst e
      refine r_il aX4_look_123 rfl ?_
      refine r_al aX4_look_124 rfl ?_
      refine r_gI aX4_look_125 rfl rfl hn ?_
      refine r_n_ge aX4_look_128 (by omega) (by omega) (fun c128 => ?_) (fun c128 => ?_)
      · -- to 174
        refine r_in1 aX4_look_174 rfl ?_
        refine r_go aX4_look_177 ?_
        refine r_f2 (r_f3 ?_)
        refine out g hL g18 gm (fun s' q => ?_)
        by_cases e : s' = s
        · subst e; exact gt
        · exact gs s' (by omega)
      · omega
    | succ k ih =>
      intro t g hk ht hL g18 gm gs gt
      have hn := (hR.lk hL).1
      have gm0 := gm t (by omega)
      have key : ∀ b : Bool, b = suU w s (t + 1) → G Y ad mX4_look 123 [some (.ref (ad 91)), some (.int (nI s)), some (.int to), some (.int (nI (t + 1)))] [] (si g 108 s (bI b)) := by
        intro b hb
        refine ih (t + 1) _ (by omega) (by omega) (lkI (Or.inr rfl) hL) (s18 (Or.inr rfl) g18) (fun s' q => by rw [si_o (by omega)]; exact gm s' q) (fun s' q => ?_) ?_
        · rw [si_row, pk_un (by omega)]; exact gs s' q
        · rw [si_row, pk_us, hb]
      have fF : suU w s (t + 1) = false → G Y ad mX4_look 166 [some (.ref (ad 91)), some (.int (nI s)), some (.int to), some (.int (nI t))] [.int (nI s), .ref (ad 108)] g := by
        intro hb
        refine r_ki aX4_look_166 ?_
        refine r_ti (v := bI false) rfl ?_
        refine r_zast aX4_look_167 rfl (by omega) ?_
        refine r_in3 aX4_look_168 rfl ?_
        refine r_go aX4_look_171 ?_
        exact key false hb.symm
      have fT : suU w s (t + 1) = true → G Y ad mX4_look 162 [some (.ref (ad 91)), some (.int (nI s)), some (.int to), some (.int (nI t))] [.int (nI s), .ref (ad 108)] g := by
        intro hb
        refine r_ki aX4_look_162 ?_
        refine r_ti (v := bI true) rfl ?_
        refine r_go aX4_look_163 ?_
        refine r_zast aX4_look_167 rfl (by omega) ?_
        refine r_in3 aX4_look_168 rfl ?_
        refine r_go aX4_look_171 ?_
        exact key true hb.symm
      have hbt := hto t (by omega)
      refine r_il aX4_look_123 rfl ?_
      refine r_al aX4_look_124 rfl ?_
      refine r_gI aX4_look_125 rfl rfl hn ?_
      refine r_n_ge aX4_look_128 (by omega) (by omega) (fun c128 => ?_) (fun c128 => ?_)
      · omega
      · -- to 131
        refine r_al aX4_look_131 rfl ?_
        refine r_getR aX4_look_132 rfl rfl ?_
        refine r_il aX4_look_135 rfl ?_
        refine r_al aX4_look_136 rfl ?_
        refine r_getR aX4_look_137 rfl rfl ?_
        refine r_il aX4_look_140 rfl ?_
        refine r_xZ aX4_look_141 rfl (by omega) gt ?_
        refine r_b_eq aX4_look_142 (fun c142 => ?_) (fun c142 => ?_)
        · -- to 166
          exact fF (by rw [suU, c142]; rfl)
        · -- to 145
          refine r_il aX4_look_145 rfl ?_
          refine r_il aX4_look_146 rfl ?_
          refine r_ishr aX4_look_147 ?_
          refine r_ki aX4_look_148 ?_
          refine r_iand aX4_look_149 ?_
          refine r_z_eq aX4_look_150 (fun c150 => ?_) (fun c150 => ?_)
          · -- to 162
            refine fT ?_
            rw [bit0 (by omega), hbt] at c150
            rw [suU, c142, c150]; rfl
          · -- to 153
            refine r_al aX4_look_153 rfl ?_
            refine r_getR aX4_look_154 rfl rfl ?_
            refine r_il aX4_look_157 rfl ?_
            refine r_xI aX4_look_158 rfl (by omega) gm0 ?_
            refine r_z_eq aX4_look_159 (fun c159 => ?_) (fun c159 => ?_)
            · -- to 166
              refine fF ?_
              rw [bit0 (by omega), hbt] at c150
              rw [suU, c142, decide_eq_true c159, Bool.and_true]
              cases hz : rB w s t with
              | true => rfl
              | false => exact absurd hz c150
            · -- to 162
              refine fT ?_
              rw [suU, c142, decide_eq_false c159, Bool.and_false]; rfl
  have p2 : ∀ (k s : Nat) (g : Mem), w.1 - s = k → s ≤ w.1 → Lk h g → g.1 91 18 = bI true → (∀ s, s < w.1 → g.1 107 s = rm w s) → (∀ s', s' < s → g.1 108 s' = bI (su w s')) → G Y ad mX4_look 100 [some (.ref (ad 91)), some (.int (nI s)), none, none] [] g := by
    intro k
    induction k with
    | zero =>
      intro s g hk hs hL g18 gm gs
      have hn := (hR.lk hL).1
      refine r_il aX4_look_100 rfl ?_
      refine r_al aX4_look_101 rfl ?_
      refine r_gI aX4_look_102 rfl rfl hn ?_
      refine r_n_ge aX4_look_105 (by omega) (by omega) (fun c105 => ?_) (fun c105 => ?_)
      · -- to 180
        exact r_vret hM aX4_look_180 rfl ⟨⟨⟨gm, fun s' q => gs s' (by omega)⟩, g18⟩, hL⟩
      · omega
    | succ k ih =>
      intro s g hk hs hL g18 gm gs
      have hRg := hR.lk hL
      have hn := hRg.1
      refine r_il aX4_look_100 rfl ?_
      refine r_al aX4_look_101 rfl ?_
      refine r_gI aX4_look_102 rfl rfl hn ?_
      refine r_n_ge aX4_look_105 (by omega) (by omega) (fun c105 => ?_) (fun c105 => ?_)
      · omega
      · -- to 108
        refine r_al aX4_look_108 rfl ?_
        refine r_il aX4_look_109 rfl ?_
        refine r_VI1 aX4_look_110 vX4_comes rfl (K_X4_comes hW hRg (by omega)) (fun x110 h110 Q110 => ?_)
        rw [Q110.1]
        refine r_is2 aX4_look_113 rfl ?_
        refine r_al aX4_look_114 rfl ?_
        refine r_getR aX4_look_115 rfl rfl ?_
        refine r_il aX4_look_118 rfl ?_
        refine r_ki aX4_look_119 ?_
        refine r_ti (v := bI true) rfl ?_
        refine r_zast aX4_look_120 rfl (by omega) ?_
        refine r_ki aX4_look_121 ?_
        refine r_is3 aX4_look_122 rfl ?_
        refine p2in s x110 (by omega) Q110.2 (fun g' a1 a2 a3 a4 => ih (s + 1) g' (by omega) (by omega) a1 a2 a3 a4) _ 0 _ rfl (by omega) (lkI (Or.inr rfl) hL) (s18 (Or.inr rfl) g18) (fun s' q => by rw [si_o (by omega)]; exact gm s' q) (fun s' q => ?_) ?_
        · rw [si_row, pk_un (by omega)]; exact gs s' q
        · rw [si_row, pk_us]; rfl
  have p1in : ∀ (s : Nat) (to : Int32), s < w.1 → (∀ t, t < w.1 → bitAt to t = rB w s t) → (∀ g : Mem, Lk h g → g.1 91 18 = bI true → (∀ s', s' < s + 1 → g.1 107 s' = rm w s') → G Y ad mX4_look 15 [some (.ref (ad 91)), some (.int (nI (s + 1))), none, none] [] g) → ∀ (k t : Nat) (g : Mem), w.1 - t = k → t ≤ w.1 → Lk h g → g.1 91 18 = bI true → (∀ s', s' < s → g.1 107 s' = rm w s') → g.1 107 s = rmU w s t → G Y ad mX4_look 38 [some (.ref (ad 91)), some (.int (nI s)), some (.int to), some (.int (nI t))] [] g := by
    intro s to hs hto out k
    induction k with
    | zero =>
      intro t g hk ht hL g18 gm gt
      have hn := (hR.lk hL).1
      have e : t = w.1 := by omega
      subst e
      refine r_il aX4_look_38 rfl ?_
      refine r_al aX4_look_39 rfl ?_
      refine r_gI aX4_look_40 rfl rfl hn ?_
      refine r_n_ge aX4_look_43 (by omega) (by omega) (fun c43 => ?_) (fun c43 => ?_)
      · -- to 92
        refine r_in1 aX4_look_92 rfl ?_
        refine r_go aX4_look_95 ?_
        refine r_f2 (r_f3 ?_)
        refine out g hL g18 (fun s' q => ?_)
        by_cases e : s' = s
        · subst e; exact gt
        · exact gm s' (by omega)
      · omega
    | succ k ih =>
      intro t g hk ht hL g18 gm gt
      have hRg := hR.lk hL
      have hn := hRg.1
      have ho := hRg.2.1 t (by omega)
      have hbt := hto t (by omega)
      have key : ∀ x : Int32, x = rmU w s (t + 1) → G Y ad mX4_look 38 [some (.ref (ad 91)), some (.int (nI s)), some (.int to), some (.int (nI (t + 1)))] [] (si g 107 s x) := by
        intro x hx
        refine ih (t + 1) _ (by omega) (by omega) (lkI (Or.inl rfl) hL) (s18 (Or.inl rfl) g18) (fun s' q => ?_) ?_
        · rw [si_row, pk_un (by omega)]; exact gm s' q
        · rw [si_row, pk_us, hx]
      refine r_il aX4_look_38 rfl ?_
      refine r_al aX4_look_39 rfl ?_
      refine r_gI aX4_look_40 rfl rfl hn ?_
      refine r_n_ge aX4_look_43 (by omega) (by omega) (fun c43 => ?_) (fun c43 => ?_)
      · omega
      · -- to 46
        refine r_al aX4_look_46 rfl ?_
        refine r_getR aX4_look_47 rfl rfl ?_
        refine r_il aX4_look_50 rfl ?_
        refine r_dup2 aX4_look_51 rfl rfl ?_
        refine r_xI aX4_look_52 rfl (by omega) gt ?_
        refine r_il aX4_look_53 rfl ?_
        refine r_il aX4_look_54 rfl ?_
        refine r_ishr aX4_look_55 ?_
        refine r_ki aX4_look_56 ?_
        refine r_iand aX4_look_57 ?_
        refine r_ki aX4_look_58 ?_
        refine r_c_ne aX4_look_59 (fun c59 => ?_) (fun c59 => ?_)
        · -- to 83
          refine r_ki aX4_look_83 ?_
          refine r_ior aX4_look_84 ?_
          refine r_ti (or_z _) ?_
          refine r_iast aX4_look_85 rfl (by omega) ?_
          refine r_in3 aX4_look_86 rfl ?_
          refine r_go aX4_look_89 ?_
          refine key _ ?_
          have hf : rB w s t = false := hbt.symm.trans (bitAt_f c59)
          rw [rmU]
          cases hz : w.2.1 t with
          | none => rfl
          | some o => rw [hf]; rfl
        · -- to 62
          refine r_al aX4_look_62 rfl ?_
          refine r_getR aX4_look_63 rfl rfl ?_
          refine r_il aX4_look_66 rfl ?_
          refine r_xI aX4_look_67 rfl (by omega) ho ?_
          refine r_ki aX4_look_68 ?_
          refine r_c_eq aX4_look_69 (fun c69 => ?_) (fun c69 => ?_)
          · -- to 83
            refine r_ki aX4_look_83 ?_
            refine r_ior aX4_look_84 ?_
            refine r_ti (or_z _) ?_
            refine r_iast aX4_look_85 rfl (by omega) ?_
            refine r_in3 aX4_look_86 rfl ?_
            refine r_go aX4_look_89 ?_
            refine key _ ?_
            have hz : w.2.1 t = none := oI_none c69 (fun o ho => by have := (hW.2.2.1 t o ho).1; omega)
            rw [rmU, hz]
          · -- to 72
            obtain ⟨o, hz⟩ := oI_some c69
            rw [hz] at ho
            refine r_ki aX4_look_72 ?_
            refine r_al aX4_look_73 rfl ?_
            refine r_getR aX4_look_74 rfl rfl ?_
            refine r_il aX4_look_77 rfl ?_
            refine r_xI aX4_look_78 rfl (by omega) ho ?_
            refine r_ishl aX4_look_79 ?_
            refine r_go aX4_look_80 ?_
            refine r_ior aX4_look_84 ?_
            refine r_iast aX4_look_85 rfl (by omega) ?_
            refine r_in3 aX4_look_86 rfl ?_
            refine r_go aX4_look_89 ?_
            refine key _ ?_
            have hf : rB w s t = true := hbt.symm.trans (bitAt_t c59)
            rw [rmU, hz, hf]; rfl
  have p1 : ∀ (k s : Nat) (g : Mem), w.1 - s = k → s ≤ w.1 → Lk h g → g.1 91 18 = bI true → (∀ s', s' < s → g.1 107 s' = rm w s') → G Y ad mX4_look 15 [some (.ref (ad 91)), some (.int (nI s)), none, none] [] g := by
    intro k
    induction k with
    | zero =>
      intro s g hk hs hL g18 gm
      have hn := (hR.lk hL).1
      refine r_il aX4_look_15 rfl ?_
      refine r_al aX4_look_16 rfl ?_
      refine r_gI aX4_look_17 rfl rfl hn ?_
      refine r_n_ge aX4_look_20 (by omega) (by omega) (fun c20 => ?_) (fun c20 => ?_)
      · -- to 98
        refine r_ki aX4_look_98 ?_
        refine r_is1 aX4_look_99 rfl ?_
        exact p2 _ 0 g rfl (by omega) hL g18 (fun s' q => gm s' (by omega)) (fun s' q => by omega)
      · omega
    | succ k ih =>
      intro s g hk hs hL g18 gm
      have hRg := hR.lk hL
      have hn := hRg.1
      refine r_il aX4_look_15 rfl ?_
      refine r_al aX4_look_16 rfl ?_
      refine r_gI aX4_look_17 rfl rfl hn ?_
      refine r_n_ge aX4_look_20 (by omega) (by omega) (fun c20 => ?_) (fun c20 => ?_)
      · omega
      · -- to 23
        refine r_al aX4_look_23 rfl ?_
        refine r_il aX4_look_24 rfl ?_
        refine r_VI1 aX4_look_25 vX4_comes rfl (K_X4_comes hW hRg (by omega)) (fun x25 h25 Q25 => ?_)
        rw [Q25.1]
        refine r_is2 aX4_look_28 rfl ?_
        refine r_al aX4_look_29 rfl ?_
        refine r_getR aX4_look_30 rfl rfl ?_
        refine r_il aX4_look_33 rfl ?_
        refine r_ki aX4_look_34 ?_
        refine r_iast aX4_look_35 rfl (by omega) ?_
        refine r_ki aX4_look_36 ?_
        refine r_is3 aX4_look_37 rfl ?_
        refine p1in s x25 (by omega) Q25.2 (fun g' a1 a2 a3 => ih (s + 1) g' (by omega) (by omega) a1 a2 a3) _ 0 _ rfl (by omega) (lkI (Or.inl rfl) hL) (s18 (Or.inl rfl) g18) (fun s' q => ?_) ?_
        · rw [si_row, pk_un (by omega)]; exact gm s' q
        · rw [si_row, pk_us]; rfl
  refine r_al aX4_look_0 rfl ?_
  refine r_gI aX4_look_1 rfl rfl k1 ?_
  refine r_b_eq aX4_look_4 (fun c4 => ?_) (fun c4 => ?_)
  · -- to 8
    refine r_al aX4_look_8 rfl ?_
    refine r_ki aX4_look_9 ?_
    refine r_ti (v := bI true) rfl ?_
    refine r_putZ aX4_look_10 rfl rfl rfl ?_
    refine r_ki aX4_look_13 ?_
    refine r_is1 aX4_look_14 rfl ?_
    exact p1 _ 0 _ rfl (by omega) ⟨Fr.si (Or.inl rfl), rfl, fun j hj => by rw [si_1]; simp [hj]⟩ (by simp [si_1]) (fun s' q => by omega)
  · -- to 7
    exact r_vret hM aX4_look_7 rfl ⟨⟨k2 c4, by rw [← c4]; exact k1⟩, Lk.rf⟩
theorem K_X4_reach {s : Nat} (hW : WW w) (hR : MW h w) (hK : MK h w) (hs : s < w.1) : Con ad mX4_reach [.ref (ad 91), .int (nI s)] h (qI fun x h' => x = rm w s ∧ MS h' w ∧ Lk h h') := by
  have h20 := hW.n
  refine Con.mk vX4_reach.1 vX4_reach.2.2.2.2 [some (.ref (ad 91)), some (.int (nI s))] rfl (Nat.le_of_ble_eq_true rfl) (fun Y hM => ?_)
  refine r_al aX4_reach_0 rfl ?_
  refine r_VV0 aX4_reach_1 vX4_look rfl (K_X4_look hW hR hK) (fun h1 Q1 => ?_)
  refine r_al aX4_reach_4 rfl ?_
  refine r_getR aX4_reach_5 rfl rfl ?_
  refine r_il aX4_reach_8 rfl ?_
  refine r_xI aX4_reach_9 rfl (by omega) (Q1.1.1.1 s hs) ?_
  exact r_iret hM aX4_reach_10 rfl ⟨rfl, Q1⟩
theorem K_X4_isSure {s : Nat} (hW : WW w) (hR : MW h w) (hK : MK h w) (hs : s < w.1) : Con ad mX4_isSure [.ref (ad 91), .int (nI s)] h (qZ fun x h' => x = su w s ∧ MS h' w ∧ Lk h h') := by
  have h20 := hW.n
  refine Con.mk vX4_isSure.1 vX4_isSure.2.2.2.2 [some (.ref (ad 91)), some (.int (nI s))] rfl (Nat.le_of_ble_eq_true rfl) (fun Y hM => ?_)
  refine r_al aX4_isSure_0 rfl ?_
  refine r_VV0 aX4_isSure_1 vX4_look rfl (K_X4_look hW hR hK) (fun h1 Q1 => ?_)
  refine r_al aX4_isSure_4 rfl ?_
  refine r_getR aX4_isSure_5 rfl rfl ?_
  refine r_il aX4_isSure_8 rfl ?_
  refine r_xZ aX4_isSure_9 rfl (by omega) (Q1.1.1.2 s hs) ?_
  exact r_zret hM aX4_isSure_10 rfl ⟨rfl, Q1⟩
theorem opAt_take {L : List Itm} {i s : Nat} (hi : i < L.length) : opAt (L.take (i + 1)) s = opAt (L.take i) s + if (gi L i).1 = s then (gi L i).2.2 else 0 := by rw [take_gi hi, opAt_push]
theorem K_X4_unended {l s : Nat} {L : List Itm} {F R : Nat → Nat} (hL : ML h l L F R) (hl : l < 5) (hs : s < 20) (hI : IW L) : Con ad mX4_unended [.ref (ad 91), .int (nI l), .int (nI s)] h (qL fun x h' => h' = h ∧ x = lN (R s + opAt L s)) := by
  have h60 := hI.1
  have hn := hL.1
  have hr := hL.2.2.2 s hs
  refine Con.mk vX4_unended.1 vX4_unended.2.2.2.2 [some (.ref (ad 91)), some (.int (nI l)), some (.int (nI s)), none, none, none] rfl (Nat.le_of_ble_eq_true rfl) (fun Y hM => ?_)
  have loop : ∀ (k i : Nat), L.length - i = k → i ≤ L.length → G Y ad mX4_unended 15 [some (.ref (ad 91)), some (.int (nI l)), some (.int (nI s)), some (.long (lN (R s + opAt (L.take i) s))), none, some (.int (nI i))] [] h := by
    intro k
    induction k with
    | zero =>
      intro i hk hi
      refine r_il aX4_unended_15 rfl ?_
      refine r_al aX4_unended_17 rfl ?_
      refine r_getR aX4_unended_18 rfl rfl ?_
      refine r_il aX4_unended_21 rfl ?_
      refine r_xI aX4_unended_22 rfl (by omega) hn ?_
      refine r_n_ge aX4_unended_23 (by omega) (by omega) (fun c23 => ?_) (fun c23 => ?_)
      · -- to 67
        refine r_ll aX4_unended_67 rfl ?_
        exact r_lret hM aX4_unended_68 rfl ⟨rfl, by rw [List.take_of_length_le (by omega)]⟩
      · omega
    | succ k ih =>
      intro i hk hi
      have hlt : i < L.length := by omega
      obtain ⟨e1, e2, e3⟩ := hL.2.1.gi hlt
      have b := (hI.gi hlt).1
      have key := ih (i + 1) (by omega) (by omega)
      rw [opAt_take hlt] at key
      refine r_il aX4_unended_15 rfl ?_
      refine r_al aX4_unended_17 rfl ?_
      refine r_getR aX4_unended_18 rfl rfl ?_
      refine r_il aX4_unended_21 rfl ?_
      refine r_xI aX4_unended_22 rfl (by omega) hn ?_
      refine r_n_ge aX4_unended_23 (by omega) (by omega) (fun c23 => ?_) (fun c23 => ?_)
      · omega
      · -- to 26
        refine r_ll aX4_unended_26 rfl ?_
        refine r_al aX4_unended_27 rfl ?_
        refine r_getR aX4_unended_28 rfl rfl ?_
        refine r_ki aX4_unended_31 ?_
        refine r_il aX4_unended_33 rfl ?_
        refine r_imulN aX4_unended_34 ?_
        refine r_il aX4_unended_35 rfl ?_
        refine r_iaddN aX4_unended_37 ?_
        refine r_xI aX4_unended_38 rfl (by omega) e1 ?_
        refine r_il aX4_unended_39 rfl ?_
        refine r_n_ne aX4_unended_40 (by omega) (by omega) (fun c40 => ?_) (fun c40 => ?_)
        · -- to 58
          refine r_kl aX4_unended_58 ?_
          refine r_laddN aX4_unended_59 ?_
          refine r_ls3 aX4_unended_60 rfl ?_
          refine r_in5 aX4_unended_61 rfl ?_
          refine r_go aX4_unended_64 ?_
          rw [if_neg c40] at key
          exact key
        · -- to 43
          refine r_al aX4_unended_43 rfl ?_
          refine r_getR aX4_unended_44 rfl rfl ?_
          refine r_ki aX4_unended_47 ?_
          refine r_il aX4_unended_49 rfl ?_
          refine r_imulN aX4_unended_50 ?_
          refine r_il aX4_unended_51 rfl ?_
          refine r_iaddN aX4_unended_53 ?_
          refine r_xL aX4_unended_54 rfl (by omega) e3 ?_
          refine r_go aX4_unended_55 ?_
          refine r_laddN aX4_unended_59 ?_
          refine r_tl (v := lN (R s + (opAt (L.take i) s + (gi L i).2.2))) (by rw [Nat.add_assoc]) ?_
          refine r_ls3 aX4_unended_60 rfl ?_
          refine r_in5 aX4_unended_61 rfl ?_
          refine r_go aX4_unended_64 ?_
          rw [if_pos c40] at key
          exact key
  refine r_al aX4_unended_0 rfl ?_
  refine r_getR aX4_unended_1 rfl rfl ?_
  refine r_ki aX4_unended_4 ?_
  refine r_il aX4_unended_6 rfl ?_
  refine r_imulN aX4_unended_7 ?_
  refine r_il aX4_unended_8 rfl ?_
  refine r_iaddN aX4_unended_9 ?_
  refine r_xL aX4_unended_10 rfl (by omega) hr ?_
  refine r_ls3 aX4_unended_11 rfl ?_
  refine r_ki aX4_unended_12 ?_
  refine r_is5 aX4_unended_13 rfl ?_
  exact loop _ 0 rfl (by omega)
theorem K_X4_foundOf {l : Nat} {x : Int32} {F : Nat → Nat} (hF : Nums h 105 (8 * l) 8 F) (hl : l < 5) : Con ad mX4_foundOf [.ref (ad 91), .int (nI l), .int x] h (qL fun y h' => h' = h ∧ y = lN (fSum F x 8)) := by
  refine Con.mk vX4_foundOf.1 vX4_foundOf.2.2.2.2 [some (.ref (ad 91)), some (.int (nI l)), some (.int x), none, none, none] rfl (Nat.le_of_ble_eq_true rfl) (fun Y hM => ?_)
  have loop : ∀ (k i : Nat), 8 - i = k → i ≤ 8 → G Y ad mX4_foundOf 5 [some (.ref (ad 91)), some (.int (nI l)), some (.int x), some (.long (lN (fSum F x i))), none, some (.int (nI i))] [] h := by
    intro k
    induction k with
    | zero =>
      intro i hk hi
      have e : i = 8 := by omega
      subst e
      refine r_il aX4_foundOf_5 rfl ?_
      refine r_ki aX4_foundOf_7 ?_
      refine r_n_ge aX4_foundOf_9 (by omega) (by omega) (fun c9 => ?_) (fun c9 => ?_)
      · -- to 47
        refine r_ll aX4_foundOf_47 rfl ?_
        exact r_lret hM aX4_foundOf_48 rfl ⟨rfl, rfl⟩
      · omega
    | succ k ih =>
      intro i hk hi
      have hv := hF i (by omega)
      have key := ih (i + 1) (by omega) (by omega)
      rw [fSum] at key
      refine r_il aX4_foundOf_5 rfl ?_
      refine r_ki aX4_foundOf_7 ?_
      refine r_n_ge aX4_foundOf_9 (by omega) (by omega) (fun c9 => ?_) (fun c9 => ?_)
      · omega
      · -- to 12
        refine r_ll aX4_foundOf_12 rfl ?_
        refine r_il aX4_foundOf_13 rfl ?_
        refine r_il aX4_foundOf_14 rfl ?_
        refine r_ishr aX4_foundOf_16 ?_
        refine r_ki aX4_foundOf_17 ?_
        refine r_iand aX4_foundOf_18 ?_
        refine r_ki aX4_foundOf_19 ?_
        refine r_c_ne aX4_foundOf_20 (fun c20 => ?_) (fun c20 => ?_)
        · -- to 38
          refine r_kl aX4_foundOf_38 ?_
          refine r_laddN aX4_foundOf_39 ?_
          refine r_ls3 aX4_foundOf_40 rfl ?_
          refine r_in5 aX4_foundOf_41 rfl ?_
          refine r_go aX4_foundOf_44 ?_
          rw [bitAt_f c20] at key
          exact key
        · -- to 23
          refine r_al aX4_foundOf_23 rfl ?_
          refine r_getR aX4_foundOf_24 rfl rfl ?_
          refine r_ki aX4_foundOf_27 ?_
          refine r_il aX4_foundOf_29 rfl ?_
          refine r_imulN aX4_foundOf_30 ?_
          refine r_il aX4_foundOf_31 rfl ?_
          refine r_iaddN aX4_foundOf_33 ?_
          refine r_xL aX4_foundOf_34 rfl (by omega) hv ?_
          refine r_go aX4_foundOf_35 ?_
          refine r_laddN aX4_foundOf_39 ?_
          refine r_ls3 aX4_foundOf_40 rfl ?_
          refine r_in5 aX4_foundOf_41 rfl ?_
          refine r_go aX4_foundOf_44 ?_
          rw [bitAt_t c20] at key
          exact key
  refine r_kl aX4_foundOf_0 ?_
  refine r_ls3 aX4_foundOf_1 rfl ?_
  refine r_ki aX4_foundOf_2 ?_
  refine r_is5 aX4_foundOf_3 rfl ?_
  exact loop 8 0 rfl (by omega)
theorem K_X4_low {l : Nat} {x : Int32} {ℓ : Lst} (hW : WW w) (hR : MW h w) (hK : MK h w) (hL : ML h l ℓ.1 ℓ.2.1 ℓ.2.2) (hl : l < 5) (hI : IW ℓ.1) : Con ad mX4_low [.ref (ad 91), .int (nI l), .int x] h (qL fun y h' => y = lN (lo w ℓ x) ∧ MK h' w ∧ Lk h h') := by
  have h20 := hW.n
  refine Con.mk vX4_low.1 vX4_low.2.2.2.2 [some (.ref (ad 91)), some (.int (nI l)), some (.int x), none, none, none] rfl (Nat.le_of_ble_eq_true rfl) (fun Y hM => ?_)
  have loop : ∀ (k s : Nat) (g : Mem), w.1 - s = k → s ≤ w.1 → MK g w → Lk h g → G Y ad mX4_low 10 [some (.ref (ad 91)), some (.int (nI l)), some (.int x), some (.long (lN (loU w ℓ x s))), none, some (.int (nI s))] [] g := by
    intro k
    induction k with
    | zero =>
      intro s g hk hs gK gL
      have hn := (hR.lk gL).1
      have e : s = w.1 := by omega
      subst e
      refine r_il aX4_low_10 rfl ?_
      refine r_al aX4_low_12 rfl ?_
      refine r_gI aX4_low_13 rfl rfl hn ?_
      refine r_n_ge aX4_low_16 (by omega) (by omega) (fun c16 => ?_) (fun c16 => ?_)
      · -- to 61
        refine r_ll aX4_low_61 rfl ?_
        exact r_lret hM aX4_low_62 rfl ⟨rfl, gK, gL⟩
      · omega
    | succ k ih =>
      intro s g hk hs gK gL
      have hRg := hR.lk gL
      have hn := hRg.1
      have hs' : s < w.1 := by omega
      refine r_il aX4_low_10 rfl ?_
      refine r_al aX4_low_12 rfl ?_
      refine r_gI aX4_low_13 rfl rfl hn ?_
      refine r_n_ge aX4_low_16 (by omega) (by omega) (fun c16 => ?_) (fun c16 => ?_)
      · omega
      · -- to 19
        refine r_ll aX4_low_19 rfl ?_
        refine r_al aX4_low_20 rfl ?_
        refine r_il aX4_low_21 rfl ?_
        refine r_VZ1 aX4_low_23 vX4_isSure rfl (K_X4_isSure hW hRg gK hs') (fun x23 h23 Q23 => ?_)
        obtain ⟨q1, q2, q3⟩ := Q23
        have key := fun g' (a : MK g' w) (b : Lk h23 g') => ih (s + 1) g' (by omega) (by omega) a ((gL.tr q3).tr b)
        rw [loU, ← q1] at key
        refine r_b_eq aX4_low_26 (fun c26 => ?_) (fun c26 => ?_)
        · -- to 52
          refine r_kl aX4_low_52 ?_
          refine r_laddN aX4_low_53 ?_
          refine r_ls3 aX4_low_54 rfl ?_
          refine r_in5 aX4_low_55 rfl ?_
          refine r_go aX4_low_58 ?_
          have := key h23 q2.k Lk.rf
          rw [c26] at this
          exact this
        · -- to 29
          refine r_al aX4_low_29 rfl ?_
          refine r_il aX4_low_30 rfl ?_
          refine r_VI1 aX4_low_32 vX4_reach rfl (K_X4_reach hW (hRg.lk q3) q2.k hs') (fun x32 h32 Q32 => ?_)
          obtain ⟨t1, t2, t3⟩ := Q32
          rw [t1]
          refine r_il aX4_low_35 rfl ?_
          refine r_ki aX4_low_36 ?_
          refine r_ixor aX4_low_37 ?_
          refine r_iand aX4_low_38 ?_
          refine r_z_ne aX4_low_39 (fun c39 => ?_) (fun c39 => ?_)
          · -- to 52
            refine r_kl aX4_low_52 ?_
            refine r_laddN aX4_low_53 ?_
            refine r_ls3 aX4_low_54 rfl ?_
            refine r_in5 aX4_low_55 rfl ?_
            refine r_go aX4_low_58 ?_
            have := key h32 t2.k t3
            rw [c26, decide_eq_false c39] at this
            exact this
          · -- to 42
            refine r_al aX4_low_42 rfl ?_
            refine r_il aX4_low_43 rfl ?_
            refine r_il aX4_low_44 rfl ?_
            refine r_VL2 aX4_low_46 vX4_unended rfl (K_X4_unended ((hL.lk gL).lk (q3.tr t3)) hl (by omega) hI) (fun x46 h46 Q46 => ?_)
            rw [Q46.1, Q46.2]
            refine r_go aX4_low_49 ?_
            refine r_laddN aX4_low_53 ?_
            refine r_ls3 aX4_low_54 rfl ?_
            refine r_in5 aX4_low_55 rfl ?_
            refine r_go aX4_low_58 ?_
            have := key h32 t2.k t3
            rw [c26, decide_eq_true c39] at this
            exact this
  refine r_al aX4_low_0 rfl ?_
  refine r_il aX4_low_1 rfl ?_
  refine r_il aX4_low_2 rfl ?_
  refine r_VL2 aX4_low_3 vX4_foundOf rfl (K_X4_foundOf hL.2.2.1 hl) (fun x3 h3 Q3 => ?_)
  rw [Q3.1, Q3.2]
  refine r_ls3 aX4_low_6 rfl ?_
  refine r_ki aX4_low_7 ?_
  refine r_is5 aX4_low_8 rfl ?_
  exact loop _ 0 h rfl (by omega) hK Lk.rf
theorem K_X4_high {l : Nat} {x : Int32} {ℓ : Lst} (hW : WW w) (hR : MW h w) (hK : MK h w) (hL : ML h l ℓ.1 ℓ.2.1 ℓ.2.2) (hl : l < 5) (hI : IW ℓ.1) : Con ad mX4_high [.ref (ad 91), .int (nI l), .int x] h (qL fun y h' => y = lN (hi w ℓ x) ∧ MK h' w ∧ Lk h h') := by
  have h20 := hW.n
  refine Con.mk vX4_high.1 vX4_high.2.2.2.2 [some (.ref (ad 91)), some (.int (nI l)), some (.int x), none, none, none] rfl (Nat.le_of_ble_eq_true rfl) (fun Y hM => ?_)
  have loop : ∀ (k s : Nat) (g : Mem), w.1 - s = k → s ≤ w.1 → MK g w → Lk h g → G Y ad mX4_high 10 [some (.ref (ad 91)), some (.int (nI l)), some (.int x), some (.long (lN (hiU w ℓ x s))), none, some (.int (nI s))] [] g := by
    intro k
    induction k with
    | zero =>
      intro s g hk hs gK gL
      have hn := (hR.lk gL).1
      have e : s = w.1 := by omega
      subst e
      refine r_il aX4_high_10 rfl ?_
      refine r_al aX4_high_12 rfl ?_
      refine r_gI aX4_high_13 rfl rfl hn ?_
      refine r_n_ge aX4_high_16 (by omega) (by omega) (fun c16 => ?_) (fun c16 => ?_)
      · -- to 50
        refine r_ll aX4_high_50 rfl ?_
        exact r_lret hM aX4_high_51 rfl ⟨rfl, gK, gL⟩
      · omega
    | succ k ih =>
      intro s g hk hs gK gL
      have hRg := hR.lk gL
      have hn := hRg.1
      have hs' : s < w.1 := by omega
      refine r_il aX4_high_10 rfl ?_
      refine r_al aX4_high_12 rfl ?_
      refine r_gI aX4_high_13 rfl rfl hn ?_
      refine r_n_ge aX4_high_16 (by omega) (by omega) (fun c16 => ?_) (fun c16 => ?_)
      · omega
      · -- to 19
        refine r_ll aX4_high_19 rfl ?_
        refine r_al aX4_high_20 rfl ?_
        refine r_il aX4_high_21 rfl ?_
        refine r_VI1 aX4_high_23 vX4_reach rfl (K_X4_reach hW hRg gK hs') (fun x23 h23 Q23 => ?_)
        obtain ⟨t1, t2, t3⟩ := Q23
        rw [t1]
        have key := ih (s + 1) h23 (by omega) (by omega) t2.k (gL.tr t3)
        rw [hiU] at key
        refine r_il aX4_high_26 rfl ?_
        refine r_iand aX4_high_27 ?_
        refine r_z_eq aX4_high_28 (fun c28 => ?_) (fun c28 => ?_)
        · -- to 41
          refine r_kl aX4_high_41 ?_
          refine r_laddN aX4_high_42 ?_
          refine r_ls3 aX4_high_43 rfl ?_
          refine r_in5 aX4_high_44 rfl ?_
          refine r_go aX4_high_47 ?_
          rw [if_pos c28] at key
          exact key
        · -- to 31
          refine r_al aX4_high_31 rfl ?_
          refine r_il aX4_high_32 rfl ?_
          refine r_il aX4_high_33 rfl ?_
          refine r_VL2 aX4_high_35 vX4_unended rfl (K_X4_unended ((hL.lk gL).lk t3) hl (by omega) hI) (fun x35 h35 Q35 => ?_)
          rw [Q35.1, Q35.2]
          refine r_go aX4_high_38 ?_
          refine r_laddN aX4_high_42 ?_
          refine r_ls3 aX4_high_43 rfl ?_
          refine r_in5 aX4_high_44 rfl ?_
          refine r_go aX4_high_47 ?_
          rw [if_neg c28] at key
          exact key
  refine r_al aX4_high_0 rfl ?_
  refine r_il aX4_high_1 rfl ?_
  refine r_il aX4_high_2 rfl ?_
  refine r_VL2 aX4_high_3 vX4_foundOf rfl (K_X4_foundOf hL.2.2.1 hl) (fun x3 h3 Q3 => ?_)
  rw [Q3.1, Q3.2]
  refine r_ls3 aX4_high_6 rfl ?_
  refine r_ki aX4_high_7 ?_
  refine r_is5 aX4_high_8 rfl ?_
  exact loop _ 0 h rfl (by omega) hK Lk.rf
theorem pl_0 (all : Nat) (h0 : 0 < all) : ∀ (k p : Nat), pl all k (p, 0) = (p * 2 ^ k, 0)
  | 0, p => by simp [pl]
  | k + 1, p => by
    unfold pl
    dsimp only
    rw [if_neg (by omega), Nat.mul_zero, pl_0 all h0 k (2 * p), Nat.pow_succ, Nat.mul_comm (2 ^ k) 2, ← Nat.mul_assoc, Nat.mul_comm 2 p]
theorem K_X4_part {sh all : Nat} {up : Bool} (hle : sh ≤ all) (h2 : all < 2 ^ 62) (h0 : 0 < all) : Con ad mX4_part [.long (lN sh), .long (lN all), .int (bI up)] h (qI fun x h' => h' = h ∧ x = ptA sh all up) := by
  obtain ⟨T, hT⟩ : ∃ T, T = pl all 30 (if all ≤ sh then (1, 0) else (0, sh)) := ⟨_, rfl⟩
  have e0 : ptA sh all up = if up = true ∧ 0 < T.2 then nI (T.1 + 1) else nI T.1 := by
    unfold ptA
    by_cases z : all ≤ sh
    · rw [if_pos z] at hT
      rw [pl_0 all h0] at hT
      rw [if_pos z, hT, if_neg (fun q => by have := q.2; dsimp only at this; omega)]
    · rw [if_neg z] at hT
      rw [if_neg z, ← hT]
  rw [e0]
  refine Con.mk vX4_part.1 vX4_part.2.2.2 [some (.long (lN sh)), none, some (.long (lN all)), none, some (.int (bI up)), none, none, none, none] rfl (Nat.le_of_ble_eq_true rfl) (fun Y hM => ?_)
  have fin : ∀ (p r : Nat), T = (p, r) → r < 2 ^ 62 → G Y ad mX4_part 9 [some (.long (lN sh)), none, some (.long (lN all)), none, some (.int (bI up)), some (.long (lN r)), none, some (.int (nI p)), some (.int (nI 31))] [] h := by
    intro p r hE hr
    rw [hE] at hM
    refine r_il aX4_part_9 rfl ?_
    refine r_ki aX4_part_11 ?_
    refine r_n_gt aX4_part_13 (by omega) (by omega) (fun c13 => ?_) (fun c13 => ?_)
    · -- to 60
      refine r_il aX4_part_60 rfl ?_
      refine r_b_eq aX4_part_62 (fun c62 => ?_) (fun c62 => ?_)
      · -- to 79
        refine r_il aX4_part_79 rfl ?_
        exact r_iret hM aX4_part_81 rfl ⟨rfl, by rw [c62]; rfl⟩
      · -- to 65
        refine r_ll aX4_part_65 rfl ?_
        refine r_kl aX4_part_67 ?_
        refine r_m_le aX4_part_68 aX4_part_69 (by omega) (by omega) (fun c68 => ?_) (fun c68 => ?_)
        · -- to 79
          refine r_il aX4_part_79 rfl ?_
          exact r_iret hM aX4_part_81 rfl ⟨rfl, by rw [if_neg (by omega)]⟩
        · -- to 72
          refine r_il aX4_part_72 rfl ?_
          refine r_ki aX4_part_74 ?_
          refine r_iaddN aX4_part_75 ?_
          refine r_go aX4_part_76 ?_
          exact r_iret hM aX4_part_81 rfl ⟨rfl, by rw [if_pos ⟨c62, c68⟩]⟩
    · omega
  have loop : ∀ (k i p r : Nat), 31 - i = k → 1 ≤ i → i ≤ 31 → 1 ≤ k → r < all → p < 2 ^ i → pl all k (p, r) = T → G Y ad mX4_part 9 [some (.long (lN sh)), none, some (.long (lN all)), none, some (.int (bI up)), some (.long (lN (2 * r))), none, some (.int (nI p)), some (.int (nI i))] [] h := by
    intro k
    induction k with
    | zero => intro i p r _ _ _ hk; omega
    | succ k ih =>
      intro i p r hk hi1 hi hk1 hr hp hE
      have hpi : 2 ^ i ≤ 1073741824 := Nat.pow_le_pow_right (n := 2) (by decide) (by omega : i ≤ 30)
      have hp2 : 2 * p + 1 < 2 ^ (i + 1) := by rw [Nat.pow_succ]; omega
      unfold pl at hE
      dsimp only at hE
      refine r_il aX4_part_9 rfl ?_
      refine r_ki aX4_part_11 ?_
      refine r_n_gt aX4_part_13 (by omega) (by omega) (fun c13 => ?_) (fun c13 => ?_)
      · omega
      · -- to 16
        refine r_il aX4_part_16 rfl ?_
        refine r_ki aX4_part_18 ?_
        refine r_ishl aX4_part_19 ?_
        refine r_ti (ishl1 (by omega)) ?_
        refine r_is7 aX4_part_20 rfl ?_
        refine r_ll aX4_part_22 rfl ?_
        refine r_ll aX4_part_24 rfl ?_
        refine r_m_lt aX4_part_25 aX4_part_26 (by omega) (by omega) (fun c25 => ?_) (fun c25 => ?_)
        · -- to 41
          refine r_il aX4_part_41 rfl ?_
          refine r_ki aX4_part_43 ?_
          refine r_n_ge aX4_part_45 (by omega) (by omega) (fun c45 => ?_) (fun c45 => ?_)
          · -- to 54
            refine r_in8 aX4_part_54 rfl ?_
            refine r_go aX4_part_57 ?_
            rw [if_neg (by omega)] at hE
            have e : i = 30 := by omega
            have e2 : k = 0 := by omega
            subst e; subst e2
            exact fin _ _ hE.symm (by omega)
          · -- to 48
            refine r_ll aX4_part_48 rfl ?_
            refine r_ki aX4_part_50 ?_
            refine r_lshl aX4_part_51 ?_
            refine r_tl (shl1 _) ?_
            refine r_ls5 aX4_part_52 rfl ?_
            refine r_in8 aX4_part_54 rfl ?_
            refine r_go aX4_part_57 ?_
            rw [if_neg (by omega)] at hE
            exact ih (i + 1) _ _ (by omega) (by omega) (by omega) (by omega) (by omega) (by omega) hE
        · -- to 29
          refine r_ll aX4_part_29 rfl ?_
          refine r_ll aX4_part_31 rfl ?_
          refine r_lsubN aX4_part_32 (by omega) ?_
          refine r_ls5 aX4_part_33 rfl ?_
          refine r_il aX4_part_35 rfl ?_
          refine r_ki aX4_part_37 ?_
          refine r_ior aX4_part_38 ?_
          refine r_ti (nI_or1 p) ?_
          refine r_is7 aX4_part_39 rfl ?_
          refine r_il aX4_part_41 rfl ?_
          refine r_ki aX4_part_43 ?_
          refine r_n_ge aX4_part_45 (by omega) (by omega) (fun c45 => ?_) (fun c45 => ?_)
          · -- to 54
            refine r_in8 aX4_part_54 rfl ?_
            refine r_go aX4_part_57 ?_
            rw [if_pos (by omega)] at hE
            have e : i = 30 := by omega
            have e2 : k = 0 := by omega
            subst e; subst e2
            exact fin _ _ hE.symm (by omega)
          · -- to 48
            refine r_ll aX4_part_48 rfl ?_
            refine r_ki aX4_part_50 ?_
            refine r_lshl aX4_part_51 ?_
            refine r_tl (shl1 _) ?_
            refine r_ls5 aX4_part_52 rfl ?_
            refine r_in8 aX4_part_54 rfl ?_
            refine r_go aX4_part_57 ?_
            rw [if_pos (by omega)] at hE
            exact ih (i + 1) _ _ (by omega) (by omega) (by omega) (by omega) (by omega) (by omega) hE
  have first : G Y ad mX4_part 9 [some (.long (lN sh)), none, some (.long (lN all)), none, some (.int (bI up)), some (.long (lN sh)), none, some (.int (nI 0)), some (.int (nI 0))] [] h := by
    refine r_il aX4_part_9 rfl ?_
    refine r_ki aX4_part_11 ?_
    refine r_n_gt aX4_part_13 (by omega) (by omega) (fun c13 => ?_) (fun c13 => ?_)
    · omega
    · -- to 16
      refine r_il aX4_part_16 rfl ?_
      refine r_ki aX4_part_18 ?_
      refine r_ishl aX4_part_19 ?_
      refine r_ti (ishl1 (by omega)) ?_
      refine r_is7 aX4_part_20 rfl ?_
      refine r_ll aX4_part_22 rfl ?_
      refine r_ll aX4_part_24 rfl ?_
      refine r_m_lt aX4_part_25 aX4_part_26 (by omega) (by omega) (fun c25 => ?_) (fun c25 => ?_)
      · -- to 41
        refine r_il aX4_part_41 rfl ?_
        refine r_ki aX4_part_43 ?_
        refine r_n_ge aX4_part_45 (by omega) (by omega) (fun c45 => ?_) (fun c45 => ?_)
        · omega
        · -- to 48
          refine r_ll aX4_part_48 rfl ?_
          refine r_ki aX4_part_50 ?_
          refine r_lshl aX4_part_51 ?_
          refine r_tl (shl1 _) ?_
          refine r_ls5 aX4_part_52 rfl ?_
          refine r_in8 aX4_part_54 rfl ?_
          refine r_go aX4_part_57 ?_
          rw [if_neg (by omega)] at hT
          exact loop 30 1 0 sh rfl (by omega) (by omega) (by omega) c25 (by decide) hT.symm
      · -- to 29
        refine r_ll aX4_part_29 rfl ?_
        refine r_ll aX4_part_31 rfl ?_
        refine r_lsubN aX4_part_32 (by omega) ?_
        refine r_ls5 aX4_part_33 rfl ?_
        refine r_il aX4_part_35 rfl ?_
        refine r_ki aX4_part_37 ?_
        refine r_ior aX4_part_38 ?_
        refine r_ti (nI_or1 0) ?_
        refine r_is7 aX4_part_39 rfl ?_
        refine r_il aX4_part_41 rfl ?_
        refine r_ki aX4_part_43 ?_
        refine r_n_ge aX4_part_45 (by omega) (by omega) (fun c45 => ?_) (fun c45 => ?_)
        · omega
        · -- to 48
          refine r_ll aX4_part_48 rfl ?_
          refine r_ki aX4_part_50 ?_
          refine r_lshl aX4_part_51 ?_
          refine r_tl (shl1 _) ?_
          refine r_ls5 aX4_part_52 rfl ?_
          refine r_in8 aX4_part_54 rfl ?_
          refine r_go aX4_part_57 ?_
          rw [if_pos c25] at hT
          have e : sh - all = 0 := by omega
          rw [e]
          exact loop 30 1 1 0 rfl (by omega) (by omega) (by omega) h0 (by decide) hT.symm
  refine r_ll aX4_part_0 rfl ?_
  refine r_ls5 aX4_part_1 rfl ?_
  refine r_ki aX4_part_3 ?_
  refine r_is7 aX4_part_4 rfl ?_
  refine r_ki aX4_part_6 ?_
  refine r_is8 aX4_part_7 rfl ?_
  exact first
end MODEL2

/-! bits (the first rows are of kit/laws/BITS.to-paste) -/
def bt (x : Int32) (i : Nat) : Bool := x.toBitVec.getLsbD i
theorem b_ext {x y : Int32} (h : ∀ i, i < 32 → bt x i = bt y i) : x = y := Int32.toBitVec_inj.mp (BitVec.eq_of_getLsbD_eq (fun i hi => h i hi))
theorem b_or (x y : Int32) (i : Nat) : bt (x ||| y) i = (bt x i || bt y i) := by unfold bt; rw [Int32.toBitVec_or, BitVec.getLsbD_or]
theorem b_and (x y : Int32) (i : Nat) : bt (x &&& y) i = (bt x i && bt y i) := by unfold bt; rw [Int32.toBitVec_and, BitVec.getLsbD_and]
theorem s_l : ∀ n, n < 32 → ((nI n &&& 31).toBitVec.smod 32).toNat = n := by decide +kernel
theorem b_shl (n : Nat) (hn : n < 32) (x : Int32) {i : Nat} (hi : i < 32) : bt (x <<< (nI n &&& 31)) i = (decide (n ≤ i) && bt x (i - n)) := by
  unfold bt
  rw [Int32.toBitVec_shiftLeft]
  show (x.toBitVec <<< ((nI n &&& 31).toBitVec.smod 32).toNat).getLsbD i = _
  rw [s_l n hn, BitVec.getLsbD_shiftLeft]
  rcases Nat.lt_or_ge i n with h | h
  · simp [h, Nat.not_le.mpr h]
  · simp [hi, h, Nat.not_lt.mpr h]
theorem b_sshr (n : Nat) (hn : n < 32) (x : Int32) {i : Nat} (hi : i < 32) : bt (x >>> (nI n &&& 31)) i = if n + i < 32 then bt x (n + i) else bt x 31 := by
  unfold bt
  rw [Int32.toBitVec_shiftRight]
  show (x.toBitVec.sshiftRight ((nI n &&& 31).toBitVec.smod 32).toNat).getLsbD i = _
  rw [s_l n hn, BitVec.getLsbD_sshiftRight, BitVec.msb_eq_getLsbD_last]
  simp [hi]
theorem bt_1 : ∀ i, i < 32 → bt (nI 1) i = decide (i = 0) := by decide +kernel
theorem bt_0 : ∀ i, i < 32 → bt (nI 0) i = false := by decide +kernel
theorem bitAt_bt {x : Int32} {i : Nat} (hi : i < 32) : bitAt x i = bt x i := by
  unfold bitAt
  have e0 : bt (x >>> (nI i &&& 31)) 0 = bt x i := by rw [b_sshr i hi x (by omega), if_pos (by omega), Nat.add_zero]
  cases hb : bt x i with
  | true =>
    apply decide_eq_true
    apply b_ext
    intro j hj
    rw [b_and, bt_1 j hj]
    by_cases z : j = 0
    · subst z; rw [e0, hb]; rfl
    · simp [z]
  | false =>
    apply decide_eq_false
    intro z
    have : bt (x >>> (nI i &&& 31) &&& nI 1) 0 = bt (nI 1) 0 := congrArg (fun y => bt y 0) z
    rw [b_and, e0, hb, bt_1 0 (by omega)] at this
    simp at this
theorem bitAt_or {x y : Int32} {i : Nat} (hi : i < 32) : bitAt (x ||| y) i = (bitAt x i || bitAt y i) := by rw [bitAt_bt hi, bitAt_bt hi, bitAt_bt hi, b_or]
theorem bitAt_one {s t : Nat} (hs : s < 32) (ht : t < 32) : bitAt (nI 1 <<< (nI s &&& 31)) t = decide (s = t) := by
  rw [bitAt_bt ht, b_shl s hs _ ht, bt_1 _ (by omega)]
  by_cases h : s = t
  · subst h; simp
  · by_cases h2 : s ≤ t
    · rw [decide_eq_false (by omega : ¬ t - s = 0), decide_eq_false h, Bool.and_false]
    · simp [h, h2]
/-! what a state comes to -/
def edg (w : Wk) (s t : Nat) : Prop := ∃ p ∈ w.2.2.1 s, p.1 = t
def pth (w : Wk) : Nat → Nat → Nat → Prop
  | 0, s, t => s = t
  | k + 1, s, t => ∃ u, edg w s u ∧ pth w k u t
def Rch (w : Wk) (s t : Nat) : Prop := ∃ k, pth w k s t
noncomputable def rB (w : Wk) (s t : Nat) : Bool := @decide (Rch w s t) (Classical.propDecidable _)
theorem rB_iff {w : Wk} {s t : Nat} : rB w s t = true ↔ Rch w s t := by unfold rB; exact @decide_eq_true_iff _ (Classical.propDecidable _)
theorem Rch.rf {w : Wk} {s : Nat} : Rch w s s := ⟨0, rfl⟩
theorem Rch.hd {w : Wk} {s u t : Nat} (h : edg w s u) (h2 : Rch w u t) : Rch w s t := by
  obtain ⟨k, hk⟩ := h2
  exact ⟨k + 1, u, h, hk⟩
theorem Rch.tr {w : Wk} {s u t : Nat} (h : Rch w s u) (h2 : Rch w u t) : Rch w s t := by
  obtain ⟨k, hk⟩ := h
  induction k generalizing s with
  | zero => cases hk; exact h2
  | succ k ih =>
    obtain ⟨v, hv, hk⟩ := hk
    exact Rch.hd hv (ih hk)
def PV (w : Wk) : Nat → Nat → Nat → Prop
  | 0, s, t => s = t ∨ edg w s t
  | v + 1, s, t => PV w v s t ∨ (PV w v s v ∧ PV w v v t)
theorem PV_s (w : Wk) : ∀ (v s t : Nat), PV w v s t → Rch w s t
  | 0, s, t, h => h.elim (fun e => e ▸ Rch.rf) (fun e => Rch.hd e Rch.rf)
  | v + 1, s, t, h => h.elim (PV_s w v s t) (fun z => (PV_s w v s v z.1).tr (PV_s w v v t z.2))
theorem PV_m (w : Wk) : ∀ (v s t : Nat), PV w 0 s t → PV w v s t
  | 0, _, _, h => h
  | v + 1, s, t, h => Or.inl (PV_m w v s t h)
theorem PV_c (w : Wk) : ∀ (v s u t : Nat), u < v → PV w v s u → PV w v u t → PV w v s t
  | 0, _, _, _, hu, _, _ => by omega
  | v + 1, s, u, t, hu, h1, h2 => by
    by_cases e : u = v
    · subst e
      exact Or.inr ⟨h1.elim id (fun z => z.1), h2.elim id (fun z => z.2)⟩
    · have hv : u < v := by omega
      rcases h1 with a | ⟨a, b⟩ <;> rcases h2 with c | ⟨c, d⟩
      · exact Or.inl (PV_c w v s u t hv a c)
      · exact Or.inr ⟨PV_c w v s u v hv a c, d⟩
      · exact Or.inr ⟨a, PV_c w v v u t hv b c⟩
      · exact Or.inr ⟨a, d⟩
theorem PV_n {w : Wk} (hW : WW w) {s t : Nat} (h : Rch w s t) : PV w w.1 s t := by
  obtain ⟨k, hk⟩ := h
  induction k generalizing s with
  | zero => exact PV_m w _ _ _ (Or.inl hk)
  | succ k ih =>
    obtain ⟨u, hu, hk⟩ := hk
    have hlt : u < w.1 := by
      obtain ⟨p, hp, e⟩ := hu
      have := ((hW.2.2.2.1 s).1 p hp).1
      omega
    exact PV_c w _ s u t hlt (PV_m w _ _ _ (Or.inr hu)) (ih hk)
theorem PV_iff {w : Wk} (hW : WW w) {s t : Nat} : PV w w.1 s t ↔ Rch w s t := ⟨PV_s w _ s t, PV_n hW⟩
theorem PV_v {w : Wk} {v t : Nat} : PV w (v + 1) v t ↔ PV w v v t := ⟨fun z => z.elim id (fun z => z.2), Or.inl⟩
/-- REACH, as a set of bits -/
noncomputable def rmU (w : Wk) (s : Nat) : Nat → Int32
  | 0 => nI 0
  | t + 1 => match w.2.1 t with
    | some o => if rB w s t then rmU w s t ||| (nI 1 <<< (nI o &&& 31)) else rmU w s t
    | none => rmU w s t
noncomputable def rm (w : Wk) (s : Nat) : Int32 := rmU w s w.1
noncomputable def suU (w : Wk) (s : Nat) : Nat → Bool
  | 0 => true
  | t + 1 => suU w s t && !(rB w s t && decide (rm w t = 0))
noncomputable def su (w : Wk) (s : Nat) : Bool := suU w s w.1
noncomputable def whU (w : Wk) (s : Nat) : Nat → Bool
  | 0 => true
  | t + 1 => whU w s t && !(rB w s t && (decide (w.2.1 t = none) && !decide (tot (w.2.2.1 t) = 16)))
noncomputable def wh (w : Wk) (s : Nat) : Bool := whU w s w.1
theorem suU_f {w : Wk} {s : Nat} : ∀ {t n : Nat}, t < n → rB w s t = true → rm w t = 0 → suU w s n = false
  | t, 0, h, _, _ => by omega
  | t, n + 1, h, h1, h2 => by
    unfold suU
    by_cases e : t = n
    · subst e; simp [h1, h2]
    · rw [suU_f (by omega : t < n) h1 h2]; rfl
theorem whU_f {w : Wk} {s : Nat} : ∀ {t n : Nat}, t < n → rB w s t = true → w.2.1 t = none → tot (w.2.2.1 t) ≠ 16 → whU w s n = false
  | t, 0, h, _, _, _ => by omega
  | t, n + 1, h, h1, h2, h3 => by
    unfold whU
    by_cases e : t = n
    · subst e; simp [h1, h2, h3]
    · rw [whU_f (by omega : t < n) h1 h2 h3]; rfl
/-- the class's survey -/
def SV (h : Mem) (w : Wk) : Prop := (∀ s, s < w.1 → ∀ t, t < w.1 → bitAt (h.1 48 s) t = rB w s t) ∧ (∀ s, s < w.1 → h.1 49 s = rm w s) ∧ (∀ s, s < w.1 → h.1 50 s = bI (su w s))
section REACH
variable {ad : Nat → Nat} {h : Mem} {w : Wk}
theorem K_X2_comes {s t : Nat} (hs : s < 20) (ht : t < 20) : Con ad mX2_comes [.ref (ad 1), .int (nI s), .int (nI t)] h (qZ fun b h' => h' = h ∧ b = bitAt (h.1 48 s) t) := by
  refine Con.mk vX2_comes.1 vX2_comes.2.2.2.2 [some (.ref (ad 1)), some (.int (nI s)), some (.int (nI t))] rfl (Nat.le_of_ble_eq_true rfl) (fun Y hM => ?_)
  refine r_al aX2_comes_0 rfl ?_
  refine r_getR aX2_comes_1 rfl rfl ?_
  refine r_il aX2_comes_4 rfl ?_
  refine r_iald aX2_comes_5 rfl (by omega) ?_
  refine r_il aX2_comes_6 rfl ?_
  refine r_ishr aX2_comes_7 ?_
  refine r_ki aX2_comes_8 ?_
  refine r_iand aX2_comes_9 ?_
  refine r_ki aX2_comes_10 ?_
  refine r_c_ne aX2_comes_11 (fun c11 => ?_) (fun c11 => ?_)
  · -- to 18
    refine r_ki aX2_comes_18 ?_
    exact r_zF hM aX2_comes_19 rfl ⟨rfl, (bitAt_f c11).symm⟩
  · -- to 14
    refine r_ki aX2_comes_14 ?_
    refine r_go aX2_comes_15 ?_
    exact r_zT hM aX2_comes_19 rfl ⟨rfl, (bitAt_t c11).symm⟩
theorem K_X2_findComings (hW : WW w) (hR : WR h w) : Con ad mX2_findComings [.ref (ad 1)] h (qV fun h' => (∀ s, s < w.1 → ∀ t, t < w.1 → bitAt (h'.1 48 s) t = rB w s t) ∧ Fr (fun a => a = 48) h h') := by
  have hn := hW.n
  have hb : ∀ {g : Mem}, Fr (fun a => a = 48) h g → WR g w := fun hF => hR.fr hF (fun a z => Or.inl (by omega))
  have row : ∀ {g : Mem} {s : Nat} {x : Int32} {s' : Nat}, (si g 48 s x).1 48 s' = if s' = s then x else g.1 48 s' := by
    intro g s x s'
    rw [si_1]; simp
  have fr : ∀ {g : Mem} {s : Nat} {x : Int32}, Fr (fun a => a = 48) h g → Fr (fun a => a = 48) h (si g 48 s x) := fun hF => hF.tr (Fr.si (P := fun a => a = 48) rfl)
  refine Con.mk vX2_findComings.1 vX2_findComings.2.2.2.2 [some (.ref (ad 1)), none, none] rfl (Nat.le_of_ble_eq_true rfl) (fun Y hM => ?_)
  have p2in : ∀ (v : Nat), v < w.1 → (∀ g : Mem, (∀ s, s < w.1 → ∀ t, t < w.1 → (bitAt (g.1 48 s) t = true ↔ PV w (v + 1) s t)) → Fr (fun a => a = 48) h g → G Y ad mX2_findComings 64 [some (.ref (ad 1)), some (.int (nI (v + 1))), none] [] g) → ∀ (k s : Nat) (g : Mem), w.1 - s = k → s ≤ w.1 → (∀ s', s' < w.1 → ∀ t, t < w.1 → (bitAt (g.1 48 s') t = true ↔ if s' < s then PV w (v + 1) s' t else PV w v s' t)) → Fr (fun a => a = 48) h g → G Y ad mX2_findComings 74 [some (.ref (ad 1)), some (.int (nI v)), some (.int (nI s))] [] g := by
    intro v hv out k
    induction k with
    | zero =>
      intro s g hk hs hP hF
      have hg := (hb hF).1
      refine r_il aX2_findComings_74 rfl ?_
      refine r_al aX2_findComings_75 rfl ?_
      refine r_gI aX2_findComings_76 rfl rfl hg ?_
      refine r_n_ge aX2_findComings_79 (by omega) (by omega) (fun c79 => ?_) (fun c79 => ?_)
      · -- to 112
        refine r_in1 aX2_findComings_112 rfl ?_
        refine r_go aX2_findComings_115 ?_
        refine r_f2 ?_
        exact out g (fun s' h1 t h2 => by rw [hP s' h1 t h2, if_pos (by omega)]) hF
      · omega
    | succ k ih =>
      intro s g hk hs hP hF
      have hg := (hb hF).1
      have hsn : s < w.1 := by omega
      have e1 : bitAt (g.1 48 s) v = true ↔ PV w v s v := by rw [hP s hsn v hv, if_neg (by omega)]
      have e2 : ∀ t, t < w.1 → (bitAt (g.1 48 v) t = true ↔ PV w v v t) := by
        intro t ht
        rw [hP v hv t ht]
        by_cases z : v < s
        · rw [if_pos z]; exact PV_v
        · rw [if_neg z]
      refine r_il aX2_findComings_74 rfl ?_
      refine r_al aX2_findComings_75 rfl ?_
      refine r_gI aX2_findComings_76 rfl rfl hg ?_
      refine r_n_ge aX2_findComings_79 (by omega) (by omega) (fun c79 => ?_) (fun c79 => ?_)
      · omega
      · -- to 82
        refine r_al aX2_findComings_82 rfl ?_
        refine r_il aX2_findComings_83 rfl ?_
        refine r_il aX2_findComings_84 rfl ?_
        refine r_VZ2 aX2_findComings_85 vX2_comes rfl (K_X2_comes (by omega) (by omega)) (fun x85 h85 Q85 => ?_)
        rw [Q85.1]
        refine r_b_eq aX2_findComings_88 (fun c88 => ?_) (fun c88 => ?_)
        · -- to 106
          refine r_in2 aX2_findComings_106 rfl ?_
          refine r_go aX2_findComings_109 ?_
          refine ih (s + 1) g (by omega) (by omega) (fun s' h1 t h2 => ?_) hF
          by_cases z : s' = s
          · subst z
            rw [hP s' h1 t h2, if_neg (by omega), if_pos (by omega)]
            have hno : ¬ PV w v s' v := fun y => by rw [Q85.2, e1.mpr y] at c88; cases c88
            exact ⟨Or.inl, fun y => y.elim id (fun y => absurd y.1 hno)⟩
          · rw [hP s' h1 t h2]
            by_cases y : s' < s
            · rw [if_pos y, if_pos (by omega)]
            · rw [if_neg y, if_neg (by omega)]
        · -- to 91
          refine r_al aX2_findComings_91 rfl ?_
          refine r_getR aX2_findComings_92 rfl rfl ?_
          refine r_il aX2_findComings_95 rfl ?_
          refine r_dup2 aX2_findComings_96 rfl rfl ?_
          refine r_iald aX2_findComings_97 rfl (by omega) ?_
          refine r_al aX2_findComings_98 rfl ?_
          refine r_getR aX2_findComings_99 rfl rfl ?_
          refine r_il aX2_findComings_102 rfl ?_
          refine r_iald aX2_findComings_103 rfl (by omega) ?_
          refine r_ior aX2_findComings_104 ?_
          refine r_iast aX2_findComings_105 rfl (by omega) ?_
          refine r_in2 aX2_findComings_106 rfl ?_
          refine r_go aX2_findComings_109 ?_
          refine ih (s + 1) _ (by omega) (by omega) (fun s' h1 t h2 => ?_) (fr hF)
          rw [row]
          by_cases z : s' = s
          · subst z
            have hyes : PV w v s' v := e1.mp (by rw [← Q85.2]; exact c88)
            rw [if_pos rfl, bitAt_or (by omega), Bool.or_eq_true, hP s' h1 t h2, if_neg (by omega), if_pos (by omega), e2 t h2]
            exact ⟨fun y => y.elim Or.inl (fun y => Or.inr ⟨hyes, y⟩), fun y => y.elim Or.inl (fun y => Or.inr y.2)⟩
          · rw [if_neg z, hP s' h1 t h2]
            by_cases y : s' < s
            · rw [if_pos y, if_pos (by omega)]
            · rw [if_neg y, if_neg (by omega)]
  have p2 : ∀ (k v : Nat) (g : Mem), w.1 - v = k → v ≤ w.1 → (∀ s, s < w.1 → ∀ t, t < w.1 → (bitAt (g.1 48 s) t = true ↔ PV w v s t)) → Fr (fun a => a = 48) h g → G Y ad mX2_findComings 64 [some (.ref (ad 1)), some (.int (nI v)), none] [] g := by
    intro k
    induction k with
    | zero =>
      intro v g hk hv hP hF
      have hg := (hb hF).1
      have e : v = w.1 := by omega
      subst e
      refine r_il aX2_findComings_64 rfl ?_
      refine r_al aX2_findComings_65 rfl ?_
      refine r_gI aX2_findComings_66 rfl rfl hg ?_
      refine r_n_ge aX2_findComings_69 (by omega) (by omega) (fun c69 => ?_) (fun c69 => ?_)
      · -- to 118
        exact r_vret hM aX2_findComings_118 rfl ⟨fun s h1 t h2 => by rw [Bool.eq_iff_iff, hP s h1 t h2, PV_iff hW, rB_iff], hF⟩
      · omega
    | succ k ih =>
      intro v g hk hv hP hF
      have hg := (hb hF).1
      refine r_il aX2_findComings_64 rfl ?_
      refine r_al aX2_findComings_65 rfl ?_
      refine r_gI aX2_findComings_66 rfl rfl hg ?_
      refine r_n_ge aX2_findComings_69 (by omega) (by omega) (fun c69 => ?_) (fun c69 => ?_)
      · omega
      · -- to 72
        refine r_ki aX2_findComings_72 ?_
        refine r_is2 aX2_findComings_73 rfl ?_
        exact p2in v (by omega) (fun g' a b => ih (v + 1) g' (by omega) (by omega) a b) _ 0 g rfl (by omega) (fun s' h1 t h2 => by rw [if_neg (by omega)]; exact hP s' h1 t h2) hF
  have p1in : ∀ (s : Nat), s < w.1 → (∀ g : Mem, (∀ s', s' < s + 1 → ∀ t, t < w.1 → (bitAt (g.1 48 s') t = true ↔ PV w 0 s' t)) → Fr (fun a => a = 48) h g → G Y ad mX2_findComings 2 [some (.ref (ad 1)), some (.int (nI (s + 1))), none] [] g) → ∀ (k i : Nat) (g : Mem), (w.2.2.1 s).length - i = k → i ≤ (w.2.2.1 s).length → (∀ s', s' < s → ∀ t, t < w.1 → (bitAt (g.1 48 s') t = true ↔ PV w 0 s' t)) → (∀ t, t < w.1 → (bitAt (g.1 48 s) t = true ↔ s = t ∨ ∃ j, j < i ∧ ∃ p, (w.2.2.1 s)[j]? = some p ∧ p.1 = t)) → Fr (fun a => a = 48) h g → G Y ad mX2_findComings 21 [some (.ref (ad 1)), some (.int (nI s)), some (.int (nI i))] [] g := by
    intro s hs out k
    have hlen := hW.len s
    induction k with
    | zero =>
      intro i g hk hi hP hQ hF
      have ha := (hb hF).2.2.2.2.1 s (by omega)
      refine r_il aX2_findComings_21 rfl ?_
      refine r_al aX2_findComings_22 rfl ?_
      refine r_getR aX2_findComings_23 rfl rfl ?_
      refine r_il aX2_findComings_26 rfl ?_
      refine r_xI aX2_findComings_27 rfl (by omega) ha ?_
      refine r_n_ge aX2_findComings_28 (by omega) (by omega) (fun c28 => ?_) (fun c28 => ?_)
      · -- to 56
        refine r_in1 aX2_findComings_56 rfl ?_
        refine r_go aX2_findComings_59 ?_
        refine r_f2 ?_
        refine out g (fun s' h1 t h2 => ?_) hF
        by_cases z : s' = s
        · subst z
          rw [hQ t h2]
          refine ⟨fun y => y.elim Or.inl (fun ⟨j, _, p, hp, e⟩ => Or.inr ⟨p, List.mem_of_getElem? hp, e⟩), fun y => y.elim Or.inl (fun ⟨p, hp, e⟩ => ?_)⟩
          obtain ⟨j, hj⟩ := List.getElem?_of_mem hp
          have := (List.getElem?_eq_some_iff.mp hj).1
          exact Or.inr ⟨j, by omega, p, hj, e⟩
        · exact hP s' (by omega) t h2
      · omega
    | succ k ih =>
      intro i g hk hi hP hQ hF
      have ha := (hb hF).2.2.2.2.1 s (by omega)
      have hlt : i < (w.2.2.1 s).length := by omega
      have h20 : s < 20 := by omega
      obtain ⟨e1, -⟩ := (hb hF).2.2.2.2.2.1 s h20 i _ (List.getElem?_eq_getElem hlt)
      have b1 := ((hW.2.2.2.1 s).1 _ (List.getElem_mem hlt)).1
      refine r_il aX2_findComings_21 rfl ?_
      refine r_al aX2_findComings_22 rfl ?_
      refine r_getR aX2_findComings_23 rfl rfl ?_
      refine r_il aX2_findComings_26 rfl ?_
      refine r_xI aX2_findComings_27 rfl (by omega) ha ?_
      refine r_n_ge aX2_findComings_28 (by omega) (by omega) (fun c28 => ?_) (fun c28 => ?_)
      · omega
      · -- to 31
        refine r_al aX2_findComings_31 rfl ?_
        refine r_getR aX2_findComings_32 rfl rfl ?_
        refine r_il aX2_findComings_35 rfl ?_
        refine r_dup2 aX2_findComings_36 rfl rfl ?_
        refine r_iald aX2_findComings_37 rfl (by omega) ?_
        refine r_ki aX2_findComings_38 ?_
        refine r_al aX2_findComings_39 rfl ?_
        refine r_getR aX2_findComings_40 rfl rfl ?_
        refine r_il aX2_findComings_43 rfl ?_
        refine r_aaldI aX2_findComings_44 rfl h20 (if_pos h20) ?_
        refine r_il aX2_findComings_45 rfl ?_
        refine r_xI aX2_findComings_46 (shT _ h20) (by omega) e1 ?_
        refine r_ishl aX2_findComings_47 ?_
        refine r_ior aX2_findComings_48 ?_
        refine r_iast aX2_findComings_49 rfl (by omega) ?_
        refine r_in2 aX2_findComings_50 rfl ?_
        refine r_go aX2_findComings_53 ?_
        refine ih (i + 1) _ (by omega) (by omega) (fun s' h1 t h2 => ?_) (fun t h2 => ?_) (fr hF)
        · rw [row, if_neg (by omega)]; exact hP s' h1 t h2
        · rw [row, if_pos rfl, bitAt_or (by omega), Bool.or_eq_true, hQ t h2, bitAt_one (by omega) (by omega), decide_eq_true_eq]
          constructor
          · rintro ((y | ⟨j, hj, p, hp, e⟩) | y)
            · exact Or.inl y
            · exact Or.inr ⟨j, by omega, p, hp, e⟩
            · exact Or.inr ⟨i, by omega, _, List.getElem?_eq_getElem hlt, y⟩
          · rintro (y | ⟨j, hj, p, hp, e⟩)
            · exact Or.inl (Or.inl y)
            · by_cases z : j = i
              · subst z
                rw [List.getElem?_eq_getElem hlt] at hp
                cases hp
                exact Or.inr e
              · exact Or.inl (Or.inr ⟨j, by omega, p, hp, e⟩)
  have p1 : ∀ (k s : Nat) (g : Mem), w.1 - s = k → s ≤ w.1 → (∀ s', s' < s → ∀ t, t < w.1 → (bitAt (g.1 48 s') t = true ↔ PV w 0 s' t)) → Fr (fun a => a = 48) h g → G Y ad mX2_findComings 2 [some (.ref (ad 1)), some (.int (nI s)), none] [] g := by
    intro k
    induction k with
    | zero =>
      intro s g hk hs hP hF
      have hg := (hb hF).1
      refine r_il aX2_findComings_2 rfl ?_
      refine r_al aX2_findComings_3 rfl ?_
      refine r_gI aX2_findComings_4 rfl rfl hg ?_
      refine r_n_ge aX2_findComings_7 (by omega) (by omega) (fun c7 => ?_) (fun c7 => ?_)
      · -- to 62
        refine r_ki aX2_findComings_62 ?_
        refine r_is1 aX2_findComings_63 rfl ?_
        exact p2 _ 0 g rfl (by omega) (fun s' h1 t h2 => hP s' (by omega) t h2) hF
      · omega
    | succ k ih =>
      intro s g hk hs hP hF
      have hg := (hb hF).1
      refine r_il aX2_findComings_2 rfl ?_
      refine r_al aX2_findComings_3 rfl ?_
      refine r_gI aX2_findComings_4 rfl rfl hg ?_
      refine r_n_ge aX2_findComings_7 (by omega) (by omega) (fun c7 => ?_) (fun c7 => ?_)
      · omega
      · -- to 10
        refine r_al aX2_findComings_10 rfl ?_
        refine r_getR aX2_findComings_11 rfl rfl ?_
        refine r_il aX2_findComings_14 rfl ?_
        refine r_ki aX2_findComings_15 ?_
        refine r_il aX2_findComings_16 rfl ?_
        refine r_ishl aX2_findComings_17 ?_
        refine r_iast aX2_findComings_18 rfl (by omega) ?_
        refine r_ki aX2_findComings_19 ?_
        refine r_is2 aX2_findComings_20 rfl ?_
        refine p1in s (by omega) (fun g' a b => ih (s + 1) g' (by omega) (by omega) a b) _ 0 _ rfl (by omega) (fun s' h1 t h2 => ?_) (fun t h2 => ?_) (fr hF)
        · rw [row, if_neg (by omega)]; exact hP s' h1 t h2
        · rw [row, if_pos rfl, bitAt_one (by omega) (by omega), decide_eq_true_eq]
          exact ⟨Or.inl, fun y => y.elim id (fun ⟨j, hj, _⟩ => by omega)⟩
  refine r_ki aX2_findComings_0 ?_
  refine r_is1 aX2_findComings_1 rfl ?_
  exact p1 _ 0 h rfl (by omega) (fun s' h1 => by omega) Fr.rf
theorem K_X2_findReach {s : Nat} (hW : WW w) (hR : WR h w) (hs : s < w.1) (hC : ∀ t, t < w.1 → bitAt (h.1 48 s) t = rB w s t) : Con ad mX2_findReach [.ref (ad 1), .int (nI s)] h (qI fun x h' => h' = h ∧ x = rm w s) := by
  have hn := hR.1
  have h20 := hW.n
  refine Con.mk vX2_findReach.1 vX2_findReach.2.2.2.2 [some (.ref (ad 1)), some (.int (nI s)), none, none] rfl (Nat.le_of_ble_eq_true rfl) (fun Y hM => ?_)
  have loop : ∀ (k t : Nat), w.1 - t = k → t ≤ w.1 → G Y ad mX2_findReach 4 [some (.ref (ad 1)), some (.int (nI s)), some (.int (rmU w s t)), some (.int (nI t))] [] h := by
    intro k
    induction k with
    | zero =>
      intro t hk ht
      have e : t = w.1 := by omega
      subst e
      refine r_il aX2_findReach_4 rfl ?_
      refine r_al aX2_findReach_5 rfl ?_
      refine r_gI aX2_findReach_6 rfl rfl hn ?_
      refine r_n_ge aX2_findReach_9 (by omega) (by omega) (fun c9 => ?_) (fun c9 => ?_)
      · -- to 46
        refine r_il aX2_findReach_46 rfl ?_
        exact r_iret hM aX2_findReach_47 rfl ⟨rfl, rfl⟩
      · omega
    | succ k ih =>
      intro t hk ht
      have key := ih (t + 1) (by omega) (by omega)
      have ho := hR.2.1 t (by omega)
      rw [rmU] at key
      refine r_il aX2_findReach_4 rfl ?_
      refine r_al aX2_findReach_5 rfl ?_
      refine r_gI aX2_findReach_6 rfl rfl hn ?_
      refine r_n_ge aX2_findReach_9 (by omega) (by omega) (fun c9 => ?_) (fun c9 => ?_)
      · omega
      · -- to 12
        refine r_al aX2_findReach_12 rfl ?_
        refine r_il aX2_findReach_13 rfl ?_
        refine r_il aX2_findReach_14 rfl ?_
        refine r_VZ2 aX2_findReach_15 vX2_comes rfl (K_X2_comes (by omega) (by omega)) (fun x15 h15 Q15 => ?_)
        rw [Q15.1]
        refine r_b_eq aX2_findReach_18 (fun c18 => ?_) (fun c18 => ?_)
        · -- to 40
          refine r_in3 aX2_findReach_40 rfl ?_
          refine r_go aX2_findReach_43 ?_
          rw [hC t (by omega)] at Q15
          have hf : rB w s t = false := Q15.2.symm.trans c18
          rw [hf] at key
          cases hz : w.2.1 t with
          | none => rw [hz] at key; exact key
          | some o => rw [hz] at key; exact key
        · -- to 21
          refine r_al aX2_findReach_21 rfl ?_
          refine r_il aX2_findReach_22 rfl ?_
          refine r_VZ1 aX2_findReach_23 vX2_goesOn rfl (K_X2_goesOn hW hR) (fun x23 h23 Q23 => ?_)
          rw [Q23.1]
          refine r_b_ne aX2_findReach_26 (fun c26 => ?_) (fun c26 => ?_)
          · -- to 40
            refine r_in3 aX2_findReach_40 rfl ?_
            refine r_go aX2_findReach_43 ?_
            obtain ⟨j, hj, e, e'⟩ := Q23.2.mp c26
            rw [← (nI_eq (by omega) (by omega)).mp e] at e'
            rw [e'] at key
            exact key
          · -- to 29
            rw [hC t (by omega)] at Q15
            have htt : rB w s t = true := Q15.2.symm.trans c18
            rw [htt] at key
            have hne : w.2.1 t ≠ none := fun z => by rw [Q23.2.mpr ⟨t, by omega, rfl, z⟩] at c26; cases c26
            obtain ⟨o, hz⟩ := Option.ne_none_iff_exists'.mp hne
            rw [hz] at key ho
            refine r_il aX2_findReach_29 rfl ?_
            refine r_ki aX2_findReach_30 ?_
            refine r_al aX2_findReach_31 rfl ?_
            refine r_getR aX2_findReach_32 rfl rfl ?_
            refine r_il aX2_findReach_35 rfl ?_
            refine r_xI aX2_findReach_36 rfl (by omega) ho ?_
            refine r_ishl aX2_findReach_37 ?_
            refine r_ior aX2_findReach_38 ?_
            refine r_is2 aX2_findReach_39 rfl ?_
            refine r_in3 aX2_findReach_40 rfl ?_
            refine r_go aX2_findReach_43 ?_
            exact key
  refine r_ki aX2_findReach_0 ?_
  refine r_is2 aX2_findReach_1 rfl ?_
  refine r_ki aX2_findReach_2 ?_
  refine r_is3 aX2_findReach_3 rfl ?_
  exact loop _ 0 rfl (by omega)
theorem K_X2_findSure {s : Nat} (hW : WW w) (hR : WR h w) (hs : s < w.1) (hC : ∀ t, t < w.1 → bitAt (h.1 48 s) t = rB w s t) (hm : ∀ t, t < w.1 → h.1 49 t = rm w t) : Con ad mX2_findSure [.ref (ad 1), .int (nI s)] h (qZ fun b h' => h' = h ∧ b = su w s) := by
  have hn := hR.1
  have h20 := hW.n
  refine Con.mk vX2_findSure.1 vX2_findSure.2.2.2.2 [some (.ref (ad 1)), some (.int (nI s)), none] rfl (Nat.le_of_ble_eq_true rfl) (fun Y hM => ?_)
  have loop : ∀ (k t : Nat), w.1 - t = k → t ≤ w.1 → suU w s t = true → G Y ad mX2_findSure 2 [some (.ref (ad 1)), some (.int (nI s)), some (.int (nI t))] [] h := by
    intro k
    induction k with
    | zero =>
      intro t hk ht hx
      have e : t = w.1 := by omega
      subst e
      refine r_il aX2_findSure_2 rfl ?_
      refine r_al aX2_findSure_3 rfl ?_
      refine r_gI aX2_findSure_4 rfl rfl hn ?_
      refine r_n_ge aX2_findSure_7 (by omega) (by omega) (fun c7 => ?_) (fun c7 => ?_)
      · -- to 36
        refine r_ki aX2_findSure_36 ?_
        exact r_zT hM aX2_findSure_37 rfl ⟨rfl, hx.symm⟩
      · omega
    | succ k ih =>
      intro t hk ht hx
      have hr := hm t (by omega)
      refine r_il aX2_findSure_2 rfl ?_
      refine r_al aX2_findSure_3 rfl ?_
      refine r_gI aX2_findSure_4 rfl rfl hn ?_
      refine r_n_ge aX2_findSure_7 (by omega) (by omega) (fun c7 => ?_) (fun c7 => ?_)
      · omega
      · -- to 10
        refine r_al aX2_findSure_10 rfl ?_
        refine r_il aX2_findSure_11 rfl ?_
        refine r_il aX2_findSure_12 rfl ?_
        refine r_VZ2 aX2_findSure_13 vX2_comes rfl (K_X2_comes (by omega) (by omega)) (fun x13 h13 Q13 => ?_)
        rw [Q13.1]
        refine r_b_eq aX2_findSure_16 (fun c16 => ?_) (fun c16 => ?_)
        · -- to 30
          refine r_in2 aX2_findSure_30 rfl ?_
          refine r_go aX2_findSure_33 ?_
          refine ih (t + 1) (by omega) (by omega) ?_
          have hf : rB w s t = false := (hC t (by omega)).symm.trans (Q13.2.symm.trans c16)
          rw [suU, hx, hf]; rfl
        · -- to 19
          refine r_al aX2_findSure_19 rfl ?_
          refine r_getR aX2_findSure_20 rfl rfl ?_
          refine r_il aX2_findSure_23 rfl ?_
          refine r_xI aX2_findSure_24 rfl (by omega) hr ?_
          refine r_z_ne aX2_findSure_25 (fun c25 => ?_) (fun c25 => ?_)
          · -- to 30
            refine r_in2 aX2_findSure_30 rfl ?_
            refine r_go aX2_findSure_33 ?_
            refine ih (t + 1) (by omega) (by omega) ?_
            rw [suU, hx, decide_eq_false c25, Bool.and_false]; rfl
          · -- to 28
            refine r_ki aX2_findSure_28 ?_
            exact r_zF hM aX2_findSure_29 rfl ⟨rfl, (suU_f (by omega : t < w.1) ((hC t (by omega)).symm.trans (Q13.2.symm.trans c16)) c25).symm⟩
  refine r_ki aX2_findSure_0 ?_
  refine r_is2 aX2_findSure_1 rfl ?_
  exact loop _ 0 rfl (by omega) rfl
theorem K_X2_isWholeFrom {s : Nat} (hW : WW w) (hR : WR h w) (hs : s < w.1) (hC : ∀ t, t < w.1 → bitAt (h.1 48 s) t = rB w s t) : Con ad mX2_isWholeFrom [.ref (ad 1), .int (nI s)] h (qZ fun b h' => h' = h ∧ b = wh w s) := by
  have hn := hR.1
  have h20 := hW.n
  refine Con.mk vX2_isWholeFrom.1 vX2_isWholeFrom.2.2.2.2 [some (.ref (ad 1)), some (.int (nI s)), none] rfl (Nat.le_of_ble_eq_true rfl) (fun Y hM => ?_)
  have loop : ∀ (k t : Nat), w.1 - t = k → t ≤ w.1 → whU w s t = true → G Y ad mX2_isWholeFrom 2 [some (.ref (ad 1)), some (.int (nI s)), some (.int (nI t))] [] h := by
    intro k
    induction k with
    | zero =>
      intro t hk ht hx
      have e : t = w.1 := by omega
      subst e
      refine r_il aX2_isWholeFrom_2 rfl ?_
      refine r_al aX2_isWholeFrom_3 rfl ?_
      refine r_gI aX2_isWholeFrom_4 rfl rfl hn ?_
      refine r_n_ge aX2_isWholeFrom_7 (by omega) (by omega) (fun c7 => ?_) (fun c7 => ?_)
      · -- to 43
        refine r_ki aX2_isWholeFrom_43 ?_
        exact r_zT hM aX2_isWholeFrom_44 rfl ⟨rfl, hx.symm⟩
      · omega
    | succ k ih =>
      intro t hk ht hx
      have o1 : w.1 - (t + 1) = k := by omega
      have o2 : t + 1 ≤ w.1 := by omega
      have o3 : t < w.1 := by omega
      refine r_il aX2_isWholeFrom_2 rfl ?_
      refine r_al aX2_isWholeFrom_3 rfl ?_
      refine r_gI aX2_isWholeFrom_4 rfl rfl hn ?_
      refine r_n_ge aX2_isWholeFrom_7 (by omega) (by omega) (fun c7 => ?_) (fun c7 => ?_)
      · omega
      · -- to 10
        refine r_al aX2_isWholeFrom_10 rfl ?_
        refine r_il aX2_isWholeFrom_11 rfl ?_
        refine r_il aX2_isWholeFrom_12 rfl ?_
        refine r_VZ2 aX2_isWholeFrom_13 vX2_comes rfl (K_X2_comes (by omega) (by omega)) (fun x13 h13 Q13 => ?_)
        rw [Q13.1]
        refine r_b_eq aX2_isWholeFrom_16 (fun c16 => ?_) (fun c16 => ?_)
        · -- to 37
          refine r_in2 aX2_isWholeFrom_37 rfl ?_
          refine r_go aX2_isWholeFrom_40 ?_
          refine ih (t + 1) o1 o2 ?_
          have hf : rB w s t = false := (hC t o3).symm.trans (Q13.2.symm.trans c16)
          rw [whU, hx, hf]; rfl
        · -- to 19
          refine r_al aX2_isWholeFrom_19 rfl ?_
          refine r_il aX2_isWholeFrom_20 rfl ?_
          refine r_VZ1 aX2_isWholeFrom_21 vX2_goesOn rfl (K_X2_goesOn hW hR) (fun x21 h21 Q21 => ?_)
          rw [Q21.1]
          refine r_b_eq aX2_isWholeFrom_24 (fun c24 => ?_) (fun c24 => ?_)
          · -- to 37
            refine r_in2 aX2_isWholeFrom_37 rfl ?_
            refine r_go aX2_isWholeFrom_40 ?_
            refine ih (t + 1) o1 o2 ?_
            have hf : ¬ w.2.1 t = none := fun z => by rw [Q21.2.mpr ⟨t, o3, rfl, z⟩] at c24; cases c24
            rw [whU, hx, decide_eq_false hf, Bool.false_and, Bool.and_false]; rfl
          · -- to 27
            refine r_al aX2_isWholeFrom_27 rfl ?_
            refine r_il aX2_isWholeFrom_28 rfl ?_
            refine r_VZ1 aX2_isWholeFrom_29 vX2_isWhole rfl (K_X2_isWhole hW hR (by omega)) (fun x29 h29 Q29 => ?_)
            rw [Q29.1]
            refine r_b_ne aX2_isWholeFrom_32 (fun c32 => ?_) (fun c32 => ?_)
            · -- to 37
              refine r_in2 aX2_isWholeFrom_37 rfl ?_
              refine r_go aX2_isWholeFrom_40 ?_
              refine ih (t + 1) o1 o2 ?_
              have hf := of_decide_eq_true (Q29.2.symm.trans c32)
              rw [whU, hx, decide_eq_true hf, Bool.not_true, Bool.and_false, Bool.and_false]; rfl
            · -- to 35
              refine r_ki aX2_isWholeFrom_35 ?_
              refine r_zF hM aX2_isWholeFrom_36 rfl ?_
              obtain ⟨j, hj, e, e'⟩ := Q21.2.mp c24
              rw [← (nI_eq (by omega) (by omega)).mp e] at e'
              exact ⟨rfl, (whU_f o3 ((hC t o3).symm.trans (Q13.2.symm.trans c16)) e' (of_decide_eq_false (Q29.2.symm.trans c32))).symm⟩
  refine r_ki aX2_isWholeFrom_0 ?_
  refine r_is2 aX2_isWholeFrom_1 rfl ?_
  exact loop _ 0 rfl (by omega) rfl
theorem K_X2_survey (hW : WW w) (hR : WR h w) : Con ad mX2_survey [.ref (ad 1)] h (qV fun h' => SV h' w ∧ Fr (fun a => 48 ≤ a ∧ a < 51) h h') := by
  have h20 := hW.n
  refine Con.mk vX2_survey.1 vX2_survey.2.2.2.2 [some (.ref (ad 1)), none] rfl (Nat.le_of_ble_eq_true rfl) (fun Y hM => ?_)
  have p2 : ∀ (k s : Nat) (g : Mem), w.1 - s = k → s ≤ w.1 → (∀ s, s < w.1 → ∀ t, t < w.1 → bitAt (g.1 48 s) t = rB w s t) → (∀ s, s < w.1 → g.1 49 s = rm w s) → (∀ s', s' < s → g.1 50 s' = bI (su w s')) → Fr (fun a => 48 ≤ a ∧ a < 51) h g → G Y ad mX2_survey 33 [some (.ref (ad 1)), some (.int (nI s))] [] g := by
    intro k
    induction k with
    | zero =>
      intro s g hk hs hC hm hS hF
      have hn := (hR.fr hF (fun a z => Or.inl z.1)).1
      refine r_il aX2_survey_33 rfl ?_
      refine r_al aX2_survey_34 rfl ?_
      refine r_gI aX2_survey_35 rfl rfl hn ?_
      refine r_n_ge aX2_survey_38 (by omega) (by omega) (fun c38 => ?_) (fun c38 => ?_)
      · -- to 58
        exact r_vret hM aX2_survey_58 rfl ⟨⟨hC, hm, fun s' h1 => hS s' (by omega)⟩, hF⟩
      · omega
    | succ k ih =>
      intro s g hk hs hC hm hS hF
      have hRg := hR.fr hF (fun a z => Or.inl z.1)
      have hn := hRg.1
      refine r_il aX2_survey_33 rfl ?_
      refine r_al aX2_survey_34 rfl ?_
      refine r_gI aX2_survey_35 rfl rfl hn ?_
      refine r_n_ge aX2_survey_38 (by omega) (by omega) (fun c38 => ?_) (fun c38 => ?_)
      · omega
      · -- to 41
        refine r_al aX2_survey_41 rfl ?_
        refine r_getR aX2_survey_42 rfl rfl ?_
        refine r_il aX2_survey_45 rfl ?_
        refine r_al aX2_survey_46 rfl ?_
        refine r_il aX2_survey_47 rfl ?_
        refine r_VZ1 aX2_survey_48 vX2_findSure rfl (K_X2_findSure hW hRg (by omega) (hC s (by omega)) hm) (fun x48 h48 Q48 => ?_)
        rw [Q48.1, Q48.2]
        refine r_zast aX2_survey_51 rfl (by omega) ?_
        refine r_in1 aX2_survey_52 rfl ?_
        refine r_go aX2_survey_55 ?_
        refine ih (s + 1) _ (by omega) (by omega) (fun s' h1 t h2 => by rw [si_o (by omega)]; exact hC s' h1 t h2) (fun s' h1 => by rw [si_o (by omega)]; exact hm s' h1) (fun s' h1 => ?_) (hF.tr (Fr.si ⟨by omega, by omega⟩))
        rw [si_1]
        by_cases z : s' = s
        · subst z; simp
        · simp [z]; exact hS s' (by omega)
  have p1 : ∀ (k s : Nat) (g : Mem), w.1 - s = k → s ≤ w.1 → (∀ s, s < w.1 → ∀ t, t < w.1 → bitAt (g.1 48 s) t = rB w s t) → (∀ s', s' < s → g.1 49 s' = rm w s') → Fr (fun a => 48 ≤ a ∧ a < 51) h g → G Y ad mX2_survey 6 [some (.ref (ad 1)), some (.int (nI s))] [] g := by
    intro k
    induction k with
    | zero =>
      intro s g hk hs hC hm hF
      have hn := (hR.fr hF (fun a z => Or.inl z.1)).1
      refine r_il aX2_survey_6 rfl ?_
      refine r_al aX2_survey_7 rfl ?_
      refine r_gI aX2_survey_8 rfl rfl hn ?_
      refine r_n_ge aX2_survey_11 (by omega) (by omega) (fun c11 => ?_) (fun c11 => ?_)
      · -- to 31
        refine r_ki aX2_survey_31 ?_
        refine r_is1 aX2_survey_32 rfl ?_
        exact p2 _ 0 g rfl (by omega) hC (fun s' h1 => hm s' (by omega)) (fun s' h1 => by omega) hF
      · omega
    | succ k ih =>
      intro s g hk hs hC hm hF
      have hRg := hR.fr hF (fun a z => Or.inl z.1)
      have hn := hRg.1
      refine r_il aX2_survey_6 rfl ?_
      refine r_al aX2_survey_7 rfl ?_
      refine r_gI aX2_survey_8 rfl rfl hn ?_
      refine r_n_ge aX2_survey_11 (by omega) (by omega) (fun c11 => ?_) (fun c11 => ?_)
      · omega
      · -- to 14
        refine r_al aX2_survey_14 rfl ?_
        refine r_getR aX2_survey_15 rfl rfl ?_
        refine r_il aX2_survey_18 rfl ?_
        refine r_al aX2_survey_19 rfl ?_
        refine r_il aX2_survey_20 rfl ?_
        refine r_VI1 aX2_survey_21 vX2_findReach rfl (K_X2_findReach hW hRg (by omega) (hC s (by omega))) (fun x21 h21 Q21 => ?_)
        rw [Q21.1, Q21.2]
        refine r_iast aX2_survey_24 rfl (by omega) ?_
        refine r_in1 aX2_survey_25 rfl ?_
        refine r_go aX2_survey_28 ?_
        refine ih (s + 1) _ (by omega) (by omega) (fun s' h1 t h2 => by rw [si_o (by omega)]; exact hC s' h1 t h2) (fun s' h1 => ?_) (hF.tr (Fr.si ⟨by omega, by omega⟩))
        rw [si_1]
        by_cases z : s' = s
        · subst z; simp
        · simp [z]; exact hm s' (by omega)
  refine r_al aX2_survey_0 rfl ?_
  refine r_VV0 aX2_survey_1 vX2_findComings rfl (K_X2_findComings hW hR) (fun h1 Q1 => ?_)
  refine r_ki aX2_survey_4 ?_
  refine r_is1 aX2_survey_5 rfl ?_
  exact p1 _ 0 h1 rfl (by omega) Q1.1 (fun s' h1 => by omega) (Q1.2.mono (fun a z => by omega))
theorem K_X2_endsWithin {s : Nat} {x : Int32} (hW : WW w) (hV : SV h w) (hs : s < w.1) : Con ad mX2_endsWithin [.ref (ad 1), .int (nI s), .int x] h (qZ fun b h' => h' = h ∧ b = (su w s && decide (rm w s &&& (x ^^^ -1) = 0))) := by
  have h20 := hW.n
  have e1 := hV.2.1 s hs
  have e2 := hV.2.2 s hs
  refine Con.mk vX2_endsWithin.1 vX2_endsWithin.2.2.2.2 [some (.ref (ad 1)), some (.int (nI s)), some (.int x)] rfl (Nat.le_of_ble_eq_true rfl) (fun Y hM => ?_)
  refine r_al aX2_endsWithin_0 rfl ?_
  refine r_getR aX2_endsWithin_1 rfl rfl ?_
  refine r_il aX2_endsWithin_4 rfl ?_
  refine r_xZ aX2_endsWithin_5 rfl (by omega) e2 ?_
  refine r_b_eq aX2_endsWithin_6 (fun c6 => ?_) (fun c6 => ?_)
  · -- to 26
    refine r_ki aX2_endsWithin_26 ?_
    exact r_zF hM aX2_endsWithin_27 rfl ⟨rfl, by rw [c6]; rfl⟩
  · -- to 9
    refine r_al aX2_endsWithin_9 rfl ?_
    refine r_getR aX2_endsWithin_10 rfl rfl ?_
    refine r_il aX2_endsWithin_13 rfl ?_
    refine r_xI aX2_endsWithin_14 rfl (by omega) e1 ?_
    refine r_il aX2_endsWithin_15 rfl ?_
    refine r_ki aX2_endsWithin_16 ?_
    refine r_ixor aX2_endsWithin_17 ?_
    refine r_iand aX2_endsWithin_18 ?_
    refine r_z_ne aX2_endsWithin_19 (fun c19 => ?_) (fun c19 => ?_)
    · -- to 26
      refine r_ki aX2_endsWithin_26 ?_
      exact r_zF hM aX2_endsWithin_27 rfl ⟨rfl, by rw [decide_eq_false c19, Bool.and_false]⟩
    · -- to 22
      refine r_ki aX2_endsWithin_22 ?_
      refine r_go aX2_endsWithin_23 ?_
      exact r_zT hM aX2_endsWithin_27 rfl ⟨rfl, by rw [c6, decide_eq_true c19]; rfl⟩
end REACH

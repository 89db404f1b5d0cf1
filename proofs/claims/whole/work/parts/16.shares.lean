/-! shares -/
def por (m w D : Nat) : Nat := m / D * w + m % D * w / D
theorem por_le {m w D : Nat} (hD : 0 < D) (hw : w ≤ D) : por m w D ≤ m := by
  have h1 : m / D * w ≤ m / D * D := Nat.mul_le_mul_left _ hw
  have h2 : m % D * w / D ≤ m % D := by
    have : m % D * w ≤ m % D * D := Nat.mul_le_mul_left _ hw
    calc m % D * w / D ≤ m % D * D / D := Nat.div_le_div_right this
      _ = m % D := Nat.mul_div_cancel _ hD
  have h3 := Nat.div_add_mod m D
  rw [Nat.mul_comm] at h3
  unfold por
  omega
theorem por_add (m a b D : Nat) : por m a D + por m b D ≤ por m (a + b) D := by
  unfold por
  rw [Nat.mul_add, Nat.mul_add]
  have : m % D * a / D + m % D * b / D ≤ (m % D * a + m % D * b) / D := by
    rcases Nat.eq_zero_or_pos D with h | h
    · subst h; simp
    · rw [Nat.le_div_iff_mul_le h, Nat.add_mul]
      exact Nat.add_le_add (Nat.div_mul_le_self _ _) (Nat.div_mul_le_self _ _)
  omega
def spr (m D : Nat) (ex : Option Nat) (d f : Nat) : List (Nat × Nat) → List Itm
  | [] => []
  | p :: r => if some p.1 = ex ∨ por m (f * p.2) D = 0 then spr m D ex d f r else (p.1, d, por m (f * p.2) D) :: spr m D ex d f r
theorem spr_len (m D : Nat) (ex : Option Nat) (d f : Nat) : ∀ l, (spr m D ex d f l).length ≤ l.length
  | [] => Nat.le_refl _
  | p :: r => by
    have := spr_len m D ex d f r
    unfold spr
    split <;> simp <;> omega
def uSum (L : List Itm) : Nat := (L.map (fun p => p.2.2)).sum
theorem uSum_app (a b : List Itm) : uSum (a ++ b) = uSum a + uSum b := by simp [uSum]
def divS (w : Wk) (s d m : Nat) : List Itm := match w.2.2.2 s with
  | none => spr m 16 none (d + 1) 1 (w.2.2.1 s)
  | some r => if r = s then spr m (16 - wt s (w.2.2.1 s)) (some s) (d + 1) 1 (w.2.2.1 s) else spr m (256 - wt r (w.2.2.1 s) * wt s (w.2.2.1 r)) (some r) (d + 1) 16 (w.2.2.1 s) ++ spr m (256 - wt r (w.2.2.1 s) * wt s (w.2.2.1 r)) (some s) (min 40 (d + 2)) (wt r (w.2.2.1 s)) (w.2.2.1 r)
def SR (h : Mem) (Sh : List Itm) : Prop := h.1 51 0 = nI Sh.length ∧ h.2 51 1 = lN (uSum Sh) ∧ Items h 52 53 54 0 Sh
def inS (a : Nat) : Prop := 51 ≤ a ∧ a < 55
theorem WR.cong {h h' : Mem} {w : Wk} (H : WR h w) (hh : ∀ a, 1 ≤ a → a < 48 → h'.1 a = h.1 a) : WR h' w := by
  obtain ⟨h1, h2, h3, h4, h5, h6, h7⟩ := H
  refine ⟨by rw [hh 1 (by omega) (by omega)]; exact h1, fun s hs => by rw [hh 2 (by omega) (by omega)]; exact h2 s hs, fun s hs => by rw [hh 3 (by omega) (by omega)]; exact h3 s hs, fun s hs => by rw [hh 4 (by omega) (by omega)]; exact h4 s hs, fun s hs => by rw [hh 5 (by omega) (by omega)]; exact h5 s hs, fun s hs i p hp => by rw [hh (7 + s) (by omega) (by omega), hh (28 + s) (by omega) (by omega)]; exact h6 s hs i p hp, fun s hs i hi h16 => by rw [hh (28 + s) (by omega) (by omega)]; exact h7 s hs i hi h16⟩
theorem WR.fr {h h' : Mem} {w : Wk} {P : Nat → Prop} (H : WR h w) (hf : Fr P h h') (hp : ∀ a, P a → 48 ≤ a ∨ a = 0) : WR h' w := H.cong (fun a h1 h2 => (hf a (fun z => by rcases hp a z with q | q <;> omega)).1)
theorem AW.other {n t : Nat} : ∀ {l : List (Nat × Nat)}, AW n l → ∀ p ∈ l, p.1 ≠ t → p.2 + wt t l ≤ tot l
  | [], _, p, hp, _ => by simp at hp
  | x :: r, h, p, hp, hne => by
    have h1 : AW n r := ⟨fun x hx => h.1 x (List.mem_cons_of_mem _ hx), by have := h.2; simp [tot] at this ⊢; omega⟩
    have hw := h1.wt_le t
    rcases List.mem_cons.mp hp with rfl | hp
    · simp only [wt, if_neg hne, tot, List.map_cons, List.sum_cons] at hw ⊢
      omega
    · have h2 := h1.other p hp hne
      have hle : p.2 ≤ tot r := by omega
      simp only [wt, tot, List.map_cons, List.sum_cons] at h2 hw hle ⊢
      split <;> omega
theorem AW.one {n : Nat} {l : List (Nat × Nat)} (h : AW n l) {p : Nat × Nat} (hp : p ∈ l) : p.2 ≤ tot l := by
  have := h.other (t := p.1 + 1) p hp (by omega)
  omega
section SHARES
variable {ad : Nat → Nat} {h : Mem} {w : Wk} {Sh : List Itm}
theorem K_X1_portion {m D wg : Nat} (hm : h.2 51 2 = lN m) (hD : h.1 51 3 = nI D) (h0 : 0 < D) (h1 : D ≤ 256) (h2 : m ≤ 2 ^ 60) (h3 : wg ≤ 256) : Con ad mX1_portion [.ref (ad 51), .int (nI wg)] h (qL fun x h' => h' = h ∧ x = lN (por m wg D)) := by
  have hmod : m % D < D := Nat.mod_lt _ h0
  have hp : m % D * wg ≤ 256 * 256 := Nat.mul_le_mul (by omega) h3
  refine Con.mk vX1_portion.1 vX1_portion.2.2.2.2 [some (.ref (ad 51)), some (.int (nI wg))] rfl (Nat.le_of_ble_eq_true rfl) (fun Y hM => ?_)
  refine r_al aX1_portion_0 rfl ?_
  refine r_gI aX1_portion_1 rfl rfl hD ?_
  refine r_ki aX1_portion_4 ?_
  refine r_n_ge aX1_portion_5 (by omega) (by omega) (fun c5 => ?_) (fun c5 => ?_)
  · -- to 10
    refine r_al aX1_portion_10 rfl ?_
    refine r_gL aX1_portion_11 rfl rfl hm ?_
    refine r_al aX1_portion_14 rfl ?_
    refine r_gI aX1_portion_15 rfl rfl hD ?_
    refine r_i2lN aX1_portion_18 (by omega) ?_
    refine r_ldivN aX1_portion_19 (by omega) (by omega) (by omega) ?_
    refine r_il aX1_portion_20 rfl ?_
    refine r_i2lN aX1_portion_21 (by omega) ?_
    refine r_lmulN aX1_portion_22 ?_
    refine r_al aX1_portion_23 rfl ?_
    refine r_gL aX1_portion_24 rfl rfl hm ?_
    refine r_al aX1_portion_27 rfl ?_
    refine r_gI aX1_portion_28 rfl rfl hD ?_
    refine r_i2lN aX1_portion_31 (by omega) ?_
    refine r_lremN aX1_portion_32 (by omega) (by omega) (by omega) ?_
    refine r_il aX1_portion_33 rfl ?_
    refine r_i2lN aX1_portion_34 (by omega) ?_
    refine r_lmulN aX1_portion_35 ?_
    refine r_al aX1_portion_36 rfl ?_
    refine r_gI aX1_portion_37 rfl rfl hD ?_
    refine r_i2lN aX1_portion_40 (by omega) ?_
    refine r_ldivN aX1_portion_41 (by omega) (by omega) (by omega) ?_
    refine r_laddN aX1_portion_42 ?_
    exact r_lret hM aX1_portion_43 rfl ⟨rfl, rfl⟩
  · omega
theorem K_X1_add {s d m : Nat} (hS : SR h Sh) (hl : Sh.length < 32) (hm : m < 2 ^ 63) : Con ad mX1_add [.ref (ad 51), .int (nI s), .int (nI d), .long (lN m)] h (qV fun h' => SR h' (if m = 0 then Sh else Sh ++ [(s, d, m)]) ∧ h'.2 51 2 = h.2 51 2 ∧ h'.1 51 3 = h.1 51 3 ∧ Fr inS h h') := by
  obtain ⟨hn, hu, hI⟩ := hS
  refine Con.mk vX1_add.1 vX1_add.2.2.2.2 [some (.ref (ad 51)), some (.int (nI s)), some (.int (nI d)), some (.long (lN m)), none] rfl (Nat.le_of_ble_eq_true rfl) (fun Y hM => ?_)
  refine r_ll aX1_add_0 rfl ?_
  refine r_kl aX1_add_1 ?_
  refine r_m_lt aX1_add_2 aX1_add_3 (by omega) (by omega) (fun c2 => ?_) (fun c2 => ?_)
  · -- to 15
    exact r_vret hM aX1_add_15 rfl ⟨by rw [if_pos (by omega)]; exact ⟨hn, hu, hI⟩, rfl, rfl, Fr.rf⟩
  · -- to 6
    refine r_al aX1_add_6 rfl ?_
    refine r_gI aX1_add_7 rfl rfl (Eq.trans (by simp [si_1, si_2, sl_1, sl_2, sri_1, sri_2, srl_1, srl_2]) hn) ?_
    refine r_ki aX1_add_10 ?_
    refine r_n_lt aX1_add_12 (by omega) (by omega) (fun c12 => ?_) (fun c12 => ?_)
    · -- to 16
      refine r_al aX1_add_16 rfl ?_
      refine r_getR aX1_add_17 rfl rfl ?_
      refine r_al aX1_add_20 rfl ?_
      refine r_gI aX1_add_21 rfl rfl (Eq.trans (by simp [si_1, si_2, sl_1, sl_2, sri_1, sri_2, srl_1, srl_2]) hn) ?_
      refine r_il aX1_add_24 rfl ?_
      refine r_iast aX1_add_25 rfl (by omega) ?_
      refine r_al aX1_add_26 rfl ?_
      refine r_getR aX1_add_27 rfl rfl ?_
      refine r_al aX1_add_30 rfl ?_
      refine r_gI aX1_add_31 rfl rfl (Eq.trans (by simp [si_1, si_2, sl_1, sl_2, sri_1, sri_2, srl_1, srl_2]) hn) ?_
      refine r_il aX1_add_34 rfl ?_
      refine r_iast aX1_add_35 rfl (by omega) ?_
      refine r_al aX1_add_36 rfl ?_
      refine r_getR aX1_add_37 rfl rfl ?_
      refine r_al aX1_add_40 rfl ?_
      refine r_gI aX1_add_41 rfl rfl (Eq.trans (by simp [si_1, si_2, sl_1, sl_2, sri_1, sri_2, srl_1, srl_2]) hn) ?_
      refine r_ll aX1_add_44 rfl ?_
      refine r_last aX1_add_45 rfl (by omega) ?_
      refine r_al aX1_add_46 rfl ?_
      refine r_dup aX1_add_47 rfl ?_
      refine r_gI aX1_add_48 rfl rfl (Eq.trans (by simp [si_1, si_2, sl_1, sl_2, sri_1, sri_2, srl_1, srl_2]) hn) ?_
      refine r_ki aX1_add_51 ?_
      refine r_iaddN aX1_add_52 ?_
      refine r_putI aX1_add_53 rfl rfl rfl ?_
      refine r_al aX1_add_56 rfl ?_
      refine r_dup aX1_add_57 rfl ?_
      refine r_gL aX1_add_58 rfl rfl (Eq.trans (by simp [si_1, si_2, sl_1, sl_2, sri_1, sri_2, srl_1, srl_2]) hu) ?_
      refine r_ll aX1_add_61 rfl ?_
      refine r_laddN aX1_add_62 ?_
      refine r_putL aX1_add_63 rfl rfl rfl ?_
      refine r_vret hM aX1_add_66 rfl ?_
      rw [if_neg (by omega)]
      refine ⟨⟨?_, ?_, ?_⟩, by simp [si_1, si_2, sl_1, sl_2], by simp [si_1, si_2, sl_1, sl_2], (Fr.si ⟨by omega, by omega⟩).tr ((Fr.si ⟨by omega, by omega⟩).tr ((Fr.sl ⟨by omega, by omega⟩).tr ((Fr.si ⟨by omega, by omega⟩).tr (Fr.sl ⟨by omega, by omega⟩))))⟩
      · simp [si_1, sl_1]
      · rw [uSum_app]
        simp [si_2, sl_2, uSum]
      · refine hI.push (fun i hi => ?_) (fun i hi => ?_) (fun i hi => ?_) ?_ ?_ ?_
        · simp [si_1, sl_1]; omega
        · simp [si_1, sl_1]; omega
        · simp [si_2, sl_2]; omega
        · simp [si_1, sl_1]
        · simp [si_1, sl_1]
        · simp [si_2, sl_2]
    · omega
theorem K_X1_spread {s d f m D : Nat} {ex : Option Nat} (hW : WW w) (hR : WR h w) (hs : s < 20) (hex : ∀ n, ex = some n → n < 20) (hS : SR h Sh) (hl : Sh.length + (w.2.2.1 s).length ≤ 32) (hm : h.2 51 2 = lN m) (hD : h.1 51 3 = nI D) (h0 : 0 < D) (h1 : D ≤ 256) (h2 : m ≤ 2 ^ 60) (hf : f ≤ 16) (hd : d ≤ 40) (hwt : ∀ p ∈ w.2.2.1 s, some p.1 ≠ ex → f * p.2 ≤ D) : Con ad mX1_spread [.ref (ad 51), .ref (ad 1), .int (nI s), .int (oI ex), .int (nI d), .int (nI f)] h (qV fun h' => SR h' (Sh ++ spr m D ex d f (w.2.2.1 s)) ∧ h'.2 51 2 = h.2 51 2 ∧ h'.1 51 3 = h.1 51 3 ∧ Fr inS h h') := by
  have hlen := hW.len s
  have hb := hW.n
  refine Con.mk vX1_spread.1 vX1_spread.2.2.2.2 [some (.ref (ad 51)), some (.ref (ad 1)), some (.int (nI s)), some (.int (oI ex)), some (.int (nI d)), some (.int (nI f)), none] rfl (Nat.le_of_ble_eq_true rfl) (fun Y hM => ?_)
  have loop : ∀ (k i : Nat) (g : Mem) (Cur : List Itm), (w.2.2.1 s).length - i = k → i ≤ (w.2.2.1 s).length → SR g Cur → Cur ++ spr m D ex d f ((w.2.2.1 s).drop i) = Sh ++ spr m D ex d f (w.2.2.1 s) → Cur.length + ((w.2.2.1 s).length - i) ≤ 32 → g.2 51 2 = h.2 51 2 → g.1 51 3 = h.1 51 3 → Fr inS h g → G Y ad mX1_spread 3 [some (.ref (ad 51)), some (.ref (ad 1)), some (.int (nI s)), some (.int (oI ex)), some (.int (nI d)), some (.int (nI f)), some (.int (nI i))] [] g := by
    intro k
    induction k with
    | zero =>
      intro i g Cur hk hi hSg hC hlg e2 e3 hF
      have hn := (hR.fr hF (fun a z => Or.inl (by have := z.1; omega))).2.2.2.2.1 s hs
      refine r_il aX1_spread_3 rfl ?_
      refine r_al aX1_spread_5 rfl ?_
      refine r_getR aX1_spread_6 rfl rfl ?_
      refine r_il aX1_spread_9 rfl ?_
      refine r_xI aX1_spread_10 rfl (by omega) hn ?_
      refine r_n_ge aX1_spread_11 (by omega) (by omega) (fun c11 => ?_) (fun c11 => ?_)
      · -- to 64
        refine r_vret hM aX1_spread_64 rfl ?_
        rw [List.drop_of_length_le (by omega)] at hC
        rw [← hC, spr, List.append_nil]
        exact ⟨hSg, e2, e3, hF⟩
      · omega
    | succ k ih =>
      intro i g Cur hk hi hSg hC hlg e2 e3 hF
      have hRg := hR.fr hF (fun a z => Or.inl (by have := z.1; omega))
      have hn := hRg.2.2.2.2.1 s hs
      have hlt : i < (w.2.2.1 s).length := by omega
      obtain ⟨t1, t2⟩ := hRg.2.2.2.2.2.1 s hs i _ (List.getElem?_eq_getElem hlt)
      have hmem : (w.2.2.1 s)[i] ∈ w.2.2.1 s := List.getElem_mem hlt
      have b1 := ((hW.2.2.2.1 s).1 _ hmem).1
      have b2 := (hW.2.2.2.1 s).one hmem
      have b3 := hW.tot s
      rw [List.drop_eq_getElem_cons hlt] at hC
      generalize (w.2.2.1 s)[i] = p at t1 t2 hmem b1 b2 hC
      have hfp : f * p.2 ≤ 16 * 16 := Nat.mul_le_mul hf (by omega)
      refine r_il aX1_spread_3 rfl ?_
      refine r_al aX1_spread_5 rfl ?_
      refine r_getR aX1_spread_6 rfl rfl ?_
      refine r_il aX1_spread_9 rfl ?_
      refine r_xI aX1_spread_10 rfl (by omega) hn ?_
      refine r_n_ge aX1_spread_11 (by omega) (by omega) (fun c11 => ?_) (fun c11 => ?_)
      · omega
      · -- to 14
        refine r_al aX1_spread_14 rfl ?_
        refine r_getR aX1_spread_15 rfl rfl ?_
        refine r_il aX1_spread_18 rfl ?_
        refine r_aaldI aX1_spread_19 rfl hs (if_pos hs) ?_
        refine r_il aX1_spread_20 rfl ?_
        refine r_xI aX1_spread_22 (shT _ hs) (by omega) t1 ?_
        refine r_il aX1_spread_23 rfl ?_
        refine r_c_eq aX1_spread_24 (fun c24 => ?_) (fun c24 => ?_)
        · -- to 58
          refine r_in6 aX1_spread_58 rfl ?_
          refine r_go aX1_spread_61 ?_
          have hx : some p.1 = ex := by
            cases ex with
            | none => exact absurd (show nI p.1 = -1 from c24) (fun z => nI_pos (n := p.1) (by omega) (by rw [z]; decide))
            | some n => exact congrArg some ((nI_eq (by omega) (by have := hex n rfl; omega)).mp c24)
          rw [spr, if_pos (Or.inl hx)] at hC
          exact ih (i + 1) g Cur (by omega) (by omega) hSg hC (by omega) e2 e3 hF
        · -- to 27
          have hx : ¬ some p.1 = ex := fun z => c24 (by rw [← z]; rfl)
          refine r_al aX1_spread_27 rfl ?_
          refine r_al aX1_spread_28 rfl ?_
          refine r_getR aX1_spread_29 rfl rfl ?_
          refine r_il aX1_spread_32 rfl ?_
          refine r_aaldI aX1_spread_33 rfl hs (if_pos hs) ?_
          refine r_il aX1_spread_34 rfl ?_
          refine r_xI aX1_spread_36 (shT _ hs) (by omega) t1 ?_
          refine r_il aX1_spread_37 rfl ?_
          refine r_al aX1_spread_39 rfl ?_
          refine r_il aX1_spread_40 rfl ?_
          refine r_al aX1_spread_42 rfl ?_
          refine r_getR aX1_spread_43 rfl rfl ?_
          refine r_il aX1_spread_46 rfl ?_
          refine r_aaldI aX1_spread_47 rfl hs (if_pos hs) ?_
          refine r_il aX1_spread_48 rfl ?_
          refine r_xI aX1_spread_50 (shW _ hs) (by omega) t2 ?_
          refine r_imulN aX1_spread_51 ?_
          refine r_VL1 aX1_spread_52 vX1_portion rfl (K_X1_portion (e2.trans hm) (e3.trans hD) h0 h1 h2 (by omega)) (fun x52 h52 Q52 => ?_)
          rw [Q52.1, Q52.2]
          refine r_VV3 aX1_spread_55 vX1_add rfl (K_X1_add hSg (by omega) (by have := por_le (m := m) h0 (hwt p hmem hx); omega)) (fun h55 Q55 => ?_)
          refine r_in6 aX1_spread_58 rfl ?_
          refine r_go aX1_spread_61 ?_
          obtain ⟨q1, q2, q3, q4⟩ := Q55
          refine ih (i + 1) h55 _ (by omega) (by omega) q1 ?_ ?_ (q2.trans e2) (q3.trans e3) (hF.tr q4)
          · rw [← hC, spr]
            by_cases z : por m (f * p.2) D = 0
            · rw [if_pos z, if_pos (Or.inr z)]
            · rw [if_neg z, if_neg (fun q => q.elim hx z), List.append_assoc]; rfl
          · split
            · omega
            · rw [List.length_append, List.length_singleton]; omega
  refine r_ki aX1_spread_0 ?_
  refine r_is6 aX1_spread_1 rfl ?_
  exact loop _ 0 h Sh rfl (by omega) hS rfl (by omega) rfl rfl Fr.rf
theorem K_X1_divide {s d m : Nat} (hW : WW w) (hR : WR h w) (hs : s < w.1) (hd : d < 40) (hm : m ≤ 2 ^ 60) : Con ad mX1_divide [.ref (ad 51), .ref (ad 1), .int (nI s), .int (nI d), .long (lN m)] h (qV fun h' => SR h' (divS w s d m) ∧ Fr inS h h') := by
  have hb := hW.n
  have hl := hR.2.2.1 s hs
  have hlen := hW.len s
  have hto := hW.tot s
  refine Con.mk vX1_divide.1 vX1_divide.2.2.2.2 [some (.ref (ad 51)), some (.ref (ad 1)), some (.int (nI s)), some (.int (nI d)), some (.long (lN m)), none, none, none] rfl (Nat.le_of_ble_eq_true rfl) (fun Y hM => ?_)
  have hF0 : ∀ D : Nat, Fr inS h (si (sl (sl (si h 51 0 (nI 0)) 51 1 (lN 0)) 51 2 (lN m)) 51 3 (nI D)) := fun D => (Fr.si ⟨by omega, by omega⟩).tr ((Fr.sl ⟨by omega, by omega⟩).tr ((Fr.sl ⟨by omega, by omega⟩).tr (Fr.si ⟨by omega, by omega⟩)))
  have hS0 : ∀ D : Nat, SR (si (sl (sl (si h 51 0 (nI 0)) 51 1 (lN 0)) 51 2 (lN m)) 51 3 (nI D)) [] := fun D => ⟨by simp [si_1, sl_1], by simp [si_2, sl_2, uSum], fun i p hp => by simp at hp⟩
  have hm0 : ∀ D : Nat, (si (sl (sl (si h 51 0 (nI 0)) 51 1 (lN 0)) 51 2 (lN m)) 51 3 (nI D)).2 51 2 = lN m := fun D => by simp [si_2, sl_2]
  have hD0 : ∀ D : Nat, (si (sl (sl (si h 51 0 (nI 0)) 51 1 (lN 0)) 51 2 (lN m)) 51 3 (nI D)).1 51 3 = nI D := fun D => by simp [si_1]
  have hR0 : ∀ D : Nat, WR (si (sl (sl (si h 51 0 (nI 0)) 51 1 (lN 0)) 51 2 (lN m)) 51 3 (nI D)) w := fun D => hR.fr (hF0 D) (fun a z => Or.inl (by have := z.1; omega))
  have hR1 : WR (sl (sl (si h 51 0 (nI 0)) 51 1 (lN 0)) 51 2 (lN m)) w := hR.fr (P := inS) ((Fr.si ⟨by omega, by omega⟩).tr ((Fr.sl ⟨by omega, by omega⟩).tr (Fr.sl ⟨by omega, by omega⟩))) (fun a z => Or.inl (by have := z.1; omega))
  have hlo := hW.2.2.2.2.1 s
  cases hlaw : w.2.2.2 s with
  | none =>
    rw [hlaw] at hl
    refine r_al aX1_divide_0 rfl ?_
    refine r_ki aX1_divide_1 ?_
    refine r_putI aX1_divide_2 rfl rfl rfl ?_
    refine r_al aX1_divide_5 rfl ?_
    refine r_kl aX1_divide_6 ?_
    refine r_putL aX1_divide_7 rfl rfl rfl ?_
    refine r_al aX1_divide_10 rfl ?_
    refine r_ll aX1_divide_11 rfl ?_
    refine r_putL aX1_divide_13 rfl rfl rfl ?_
    refine r_al aX1_divide_16 rfl ?_
    refine r_getR aX1_divide_17 rfl rfl ?_
    refine r_il aX1_divide_20 rfl ?_
    refine r_xI aX1_divide_21 rfl (by omega) (Eq.trans (by simp [si_1, si_2, sl_1, sl_2, sri_1, sri_2, srl_1, srl_2]) hl) ?_
    refine r_is6 aX1_divide_22 rfl ?_
    refine r_il aX1_divide_24 rfl ?_
    refine r_ki aX1_divide_26 ?_
    refine r_c_ne aX1_divide_27 (fun c27 => ?_) (fun c27 => ?_)
    · exact absurd rfl c27
    · -- to 30
      refine r_al aX1_divide_30 rfl ?_
      refine r_ki aX1_divide_31 ?_
      refine r_putI aX1_divide_33 rfl rfl rfl ?_
      refine r_al aX1_divide_36 rfl ?_
      refine r_al aX1_divide_37 rfl ?_
      refine r_il aX1_divide_38 rfl ?_
      refine r_ki aX1_divide_39 ?_
      refine r_il aX1_divide_40 rfl ?_
      refine r_ki aX1_divide_41 ?_
      refine r_iaddN aX1_divide_42 ?_
      refine r_ki aX1_divide_43 ?_
      refine r_VV5 aX1_divide_44 vX1_spread rfl (K_X1_spread (ex := none) (Sh := []) hW (hR0 16) (by omega) (fun n z => by cases z) (hS0 16) (by rw [List.length_nil]; omega) (hm0 16) (hD0 16) (by omega) (by omega) hm (by omega) (by omega) (fun p hp _ => by have := (hW.2.2.2.1 s).one hp; omega)) (fun h44 Q44 => ?_)
      refine r_go aX1_divide_47 ?_
      exact r_vret hM aX1_divide_141 rfl ⟨by unfold divS; rw [hlaw]; exact Q44.1, (hF0 16).tr Q44.2.2.2⟩
  | some r =>
    rw [hlaw] at hl
    obtain ⟨hr, hok⟩ := hlo r hs hlaw
    have hneg : ¬ oI (some r) = -1 := fun z => nI_pos (n := r) (by omega) (by rw [show nI r = -1 from z]; decide)
    by_cases hrs : r = s
    · subst hrs
      rw [LawOk, if_pos rfl] at hok
      obtain ⟨k1, k2, k3⟩ := hok
      refine r_al aX1_divide_0 rfl ?_
      refine r_ki aX1_divide_1 ?_
      refine r_putI aX1_divide_2 rfl rfl rfl ?_
      refine r_al aX1_divide_5 rfl ?_
      refine r_kl aX1_divide_6 ?_
      refine r_putL aX1_divide_7 rfl rfl rfl ?_
      refine r_al aX1_divide_10 rfl ?_
      refine r_ll aX1_divide_11 rfl ?_
      refine r_putL aX1_divide_13 rfl rfl rfl ?_
      refine r_al aX1_divide_16 rfl ?_
      refine r_getR aX1_divide_17 rfl rfl ?_
      refine r_il aX1_divide_20 rfl ?_
      refine r_xI aX1_divide_21 rfl (by omega) (Eq.trans (by simp [si_1, si_2, sl_1, sl_2, sri_1, sri_2, srl_1, srl_2]) hl) ?_
      refine r_is6 aX1_divide_22 rfl ?_
      refine r_il aX1_divide_24 rfl ?_
      refine r_ki aX1_divide_26 ?_
      refine r_c_ne aX1_divide_27 (fun c27 => ?_) (fun c27 => ?_)
      · -- to 50
        refine r_il aX1_divide_50 rfl ?_
        refine r_il aX1_divide_52 rfl ?_
        refine r_c_ne aX1_divide_53 (fun c53 => ?_) (fun c53 => ?_)
        · exact absurd rfl c53
        · -- to 56
          refine r_al aX1_divide_56 rfl ?_
          refine r_ki aX1_divide_57 ?_
          refine r_al aX1_divide_59 rfl ?_
          refine r_il aX1_divide_60 rfl ?_
          refine r_il aX1_divide_61 rfl ?_
          refine r_VI2 aX1_divide_62 vX2_sixteenthsTo rfl (K_X2_sixteenthsTo hW hR1 (by omega) (by omega)) (fun x62 h62 Q62 => ?_)
          rw [Q62.1, Q62.2]
          refine r_isubN aX1_divide_65 (by omega) ?_
          refine r_putI aX1_divide_66 rfl rfl rfl ?_
          refine r_al aX1_divide_69 rfl ?_
          refine r_al aX1_divide_70 rfl ?_
          refine r_il aX1_divide_71 rfl ?_
          refine r_il aX1_divide_72 rfl ?_
          refine r_il aX1_divide_73 rfl ?_
          refine r_ki aX1_divide_74 ?_
          refine r_iaddN aX1_divide_75 ?_
          refine r_ki aX1_divide_76 ?_
          refine r_VV5 aX1_divide_77 vX1_spread rfl (K_X1_spread (ex := some r) (Sh := []) hW (hR0 _) (by omega) (fun n z => by cases z; omega) (hS0 _) (by rw [List.length_nil]; omega) (hm0 _) (hD0 _) (by omega) (by omega) hm (by omega) (by omega) (fun p hp hne => by have := (hW.2.2.2.1 r).other (t := r) p hp (fun z => hne (congrArg some z)); omega)) (fun h77 Q77 => ?_)
          refine r_go aX1_divide_80 ?_
          exact r_vret hM aX1_divide_141 rfl ⟨by unfold divS; rw [hlaw]; dsimp only; rw [if_pos rfl]; exact Q77.1, (hF0 _).tr Q77.2.2.2⟩
      · exact absurd c27 hneg
    · rw [LawOk, if_neg hrs] at hok
      obtain ⟨k1, k2, k3, k4, k5, k6, k7⟩ := hok
      have a16 := hW.wt s r
      have b16 := hW.wt r s
      have hlr := hW.len r
      generalize ha : wt r (w.2.2.1 s) = a at k3 k5 a16
      generalize hbb : wt s (w.2.2.1 r) = b at k4 k5 b16
      have hab : a * b ≤ a * 16 := Nat.mul_le_mul_left _ b16
      have hba : a * b ≤ 16 * b := Nat.mul_le_mul_right _ a16
      refine r_al aX1_divide_0 rfl ?_
      refine r_ki aX1_divide_1 ?_
      refine r_putI aX1_divide_2 rfl rfl rfl ?_
      refine r_al aX1_divide_5 rfl ?_
      refine r_kl aX1_divide_6 ?_
      refine r_putL aX1_divide_7 rfl rfl rfl ?_
      refine r_al aX1_divide_10 rfl ?_
      refine r_ll aX1_divide_11 rfl ?_
      refine r_putL aX1_divide_13 rfl rfl rfl ?_
      refine r_al aX1_divide_16 rfl ?_
      refine r_getR aX1_divide_17 rfl rfl ?_
      refine r_il aX1_divide_20 rfl ?_
      refine r_xI aX1_divide_21 rfl (by omega) (Eq.trans (by simp [si_1, si_2, sl_1, sl_2, sri_1, sri_2, srl_1, srl_2]) hl) ?_
      refine r_is6 aX1_divide_22 rfl ?_
      refine r_il aX1_divide_24 rfl ?_
      refine r_ki aX1_divide_26 ?_
      refine r_c_ne aX1_divide_27 (fun c27 => ?_) (fun c27 => ?_)
      · -- to 50
        refine r_il aX1_divide_50 rfl ?_
        refine r_il aX1_divide_52 rfl ?_
        refine r_c_ne aX1_divide_53 (fun c53 => ?_) (fun c53 => ?_)
        · -- to 83
          refine r_al aX1_divide_83 rfl ?_
          refine r_il aX1_divide_84 rfl ?_
          refine r_il aX1_divide_85 rfl ?_
          refine r_VI2 aX1_divide_87 vX2_sixteenthsTo rfl (K_X2_sixteenthsTo hW hR1 (by omega) (by omega)) (fun x87 h87 Q87 => ?_)
          rw [Q87.1, Q87.2, ha]
          refine r_is7 aX1_divide_90 rfl ?_
          refine r_al aX1_divide_92 rfl ?_
          refine r_ki aX1_divide_93 ?_
          refine r_il aX1_divide_96 rfl ?_
          refine r_al aX1_divide_98 rfl ?_
          refine r_il aX1_divide_99 rfl ?_
          refine r_il aX1_divide_101 rfl ?_
          refine r_VI2 aX1_divide_102 vX2_sixteenthsTo rfl (K_X2_sixteenthsTo hW hR1 (by omega) (by omega)) (fun x102 h102 Q102 => ?_)
          rw [Q102.1, Q102.2, hbb]
          refine r_imulN aX1_divide_105 ?_
          refine r_isubN aX1_divide_106 (by omega) ?_
          refine r_putI aX1_divide_107 rfl rfl rfl ?_
          refine r_al aX1_divide_110 rfl ?_
          refine r_al aX1_divide_111 rfl ?_
          refine r_il aX1_divide_112 rfl ?_
          refine r_il aX1_divide_113 rfl ?_
          refine r_il aX1_divide_115 rfl ?_
          refine r_ki aX1_divide_116 ?_
          refine r_iaddN aX1_divide_117 ?_
          refine r_ki aX1_divide_118 ?_
          refine r_VV5 aX1_divide_120 vX1_spread rfl (K_X1_spread (ex := some r) (Sh := []) hW (hR0 _) (by omega) (fun n z => by cases z; omega) (hS0 _) (by rw [List.length_nil]; omega) (hm0 _) (hD0 _) (by omega) (by omega) hm (by omega) (by omega) (fun p hp hne => by have := (hW.2.2.2.1 s).other (t := r) p hp (fun z => hne (congrArg some z)); omega)) (fun h120 Q120 => ?_)
          refine r_al aX1_divide_123 rfl ?_
          refine r_al aX1_divide_124 rfl ?_
          refine r_il aX1_divide_125 rfl ?_
          refine r_il aX1_divide_127 rfl ?_
          refine r_ki aX1_divide_128 ?_
          refine r_il aX1_divide_130 rfl ?_
          refine r_ki aX1_divide_131 ?_
          refine r_iaddN aX1_divide_132 ?_
          refine r_min aX1_divide_133 (by omega) (by omega) ?_
          refine r_il aX1_divide_136 rfl ?_
          refine r_VV5 aX1_divide_138 vX1_spread rfl (K_X1_spread (ex := some s) hW (hR.fr ((hF0 _).tr Q120.2.2.2) (fun a z => Or.inl (by have := z.1; omega))) (by omega) (fun n z => by cases z; omega) Q120.1 (by have := spr_len m (256 - a * b) (some r) (d + 1) 16 (w.2.2.1 s); rw [List.nil_append]; omega) (Q120.2.1.trans (hm0 _)) (Q120.2.2.1.trans (hD0 _)) (by omega) (by omega) hm (by omega) (by omega) (fun p hp hne => by have h7 := (hW.2.2.2.1 r).other (t := s) p hp (fun z => hne (congrArg some z)); have h8 : a * p.2 ≤ a * (16 - b) := Nat.mul_le_mul_left _ (by omega); rw [Nat.mul_sub] at h8; omega)) (fun h138 Q138 => ?_)
          exact r_vret hM aX1_divide_141 rfl ⟨by unfold divS; rw [hlaw]; dsimp only; rw [if_neg hrs, ha, hbb]; exact Q138.1, ((hF0 _).tr Q120.2.2.2).tr Q138.2.2.2⟩
        · exact absurd ((nI_eq (by omega) (by omega)).mp c53) hrs
      · exact absurd c27 hneg
end SHARES

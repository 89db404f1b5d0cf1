/-! the reference's cells -/
def MW (h : Mem) (w : Wk) : Prop := h.1 91 0 = nI w.1 ∧ (∀ s, s < w.1 → h.1 92 s = oI (w.2.1 s)) ∧ (∀ s, s < w.1 → h.1 93 s = nI (w.2.2.1 s).length) ∧ (∀ s, s < w.1 → ∀ (i : Nat) (p : Nat × Nat), (w.2.2.1 s)[i]? = some p → h.1 94 (20 * s + i) = nI p.1 ∧ h.1 95 (20 * s + i) = nI p.2) ∧ (∀ s, s < w.1 → h.1 96 s = nI (tot (w.2.2.1 s))) ∧ (∀ s, s < w.1 → h.1 97 s = oI (w.2.2.2 s))
theorem MW.cong {h h' : Mem} {w : Wk} (H : MW h w) (e : h'.1 91 0 = h.1 91 0) (f : ∀ a, 92 ≤ a → a < 98 → h'.1 a = h.1 a) : MW h' w := by
  obtain ⟨a, b, c, d, g, i⟩ := H
  exact ⟨e.trans a, fun s hs => by rw [f 92 (by omega) (by omega)]; exact b s hs, fun s hs => by rw [f 93 (by omega) (by omega)]; exact c s hs, fun s hs j p hp => by rw [f 94 (by omega) (by omega), f 95 (by omega) (by omega)]; exact d s hs j p hp, fun s hs => by rw [f 96 (by omega) (by omega)]; exact g s hs, fun s hs => by rw [f 97 (by omega) (by omega)]; exact i s hs⟩
def MV (h : Mem) (w : Wk) : Prop := (∀ s, s < w.1 → h.1 107 s = rm w s) ∧ (∀ s, s < w.1 → h.1 108 s = bI (su w s))
def MK (h : Mem) (w : Wk) : Prop := ∃ lk, h.1 91 18 = bI lk ∧ (lk = true → MV h w)
/-- only what look() writes -/
def Lk (h h' : Mem) : Prop := Fr (fun a => a = 91 ∨ a = 107 ∨ a = 108) h h' ∧ h'.2 = h.2 ∧ ∀ j, j ≠ 18 → h'.1 91 j = h.1 91 j
theorem Lk.rf {h : Mem} : Lk h h := ⟨Fr.rf, rfl, fun _ _ => rfl⟩
theorem Lk.tr {h h1 h2 : Mem} (a : Lk h h1) (b : Lk h1 h2) : Lk h h2 := ⟨a.1.tr b.1, b.2.1.trans a.2.1, fun j hj => (b.2.2 j hj).trans (a.2.2 j hj)⟩
theorem Lk.row {h h' : Mem} (H : Lk h h') {a : Nat} (h1 : a ≠ 91) (h2 : a ≠ 107) (h3 : a ≠ 108) : h'.1 a = h.1 a := (H.1 a (fun z => by rcases z with z | z | z; exact h1 z; exact h2 z; exact h3 z)).1
theorem MW.lk {h h' : Mem} {w : Wk} (H : MW h w) (L : Lk h h') : MW h' w := H.cong (L.2.2 0 (by omega)) (fun a h1 h2 => L.row (by omega) (by omega) (by omega))
theorem bit0 {x : Int32} {i : Nat} (hi : i < 32) : (x >>> (nI i &&& 31)) &&& nI 1 = 0 ↔ bitAt x i = false := by
  have e0 : bt (x >>> (nI i &&& 31)) 0 = bt x i := by rw [b_sshr i hi x (by omega), if_pos (by omega), Nat.add_zero]
  rw [bitAt_bt hi]
  constructor
  · intro z
    have := congrArg (fun y => bt y 0) z
    have h2 : bt (x >>> (nI i &&& 31) &&& nI 1) 0 = bt 0 0 := this
    rw [b_and, e0, bt_1 0 (by omega)] at h2
    have h3 : bt 0 0 = false := by decide +kernel
    rw [h3] at h2
    simpa using h2
  · intro z
    apply b_ext
    intro j hj
    have h3 : bt (0 : Int32) j = false := bt_0 j hj
    rw [b_and, bt_1 j hj, h3]
    by_cases q : j = 0
    · subst q; rw [e0, z]; rfl
    · simp [q]
theorem or_z (x : Int32) : x ||| nI 0 = x := b_ext (fun i hi => by rw [b_or, bt_0 i hi, Bool.or_false])
def cz (m : Int32) : Nat → Nat
  | 0 => 0
  | k + 1 => cz m k + if bt m k then 0 else 1
theorem cz_le {A B : Int32} (h : ∀ i, i < 32 → bt B i = true → bt A i = true) : ∀ k, k ≤ 32 → cz A k ≤ cz B k
  | 0, _ => Nat.le_refl _
  | k + 1, hk => by
    have ih := cz_le h k (by omega)
    unfold cz
    by_cases z : bt B k = true
    · rw [if_pos z, if_pos (h k (by omega) z)]; omega
    · rw [if_neg z]; split <;> omega
theorem cz_lt {A B : Int32} (h : ∀ i, i < 32 → bt B i = true → bt A i = true) {i : Nat} (h1 : bt B i = false) (h2 : bt A i = true) : ∀ k, i < k → k ≤ 32 → cz A k < cz B k
  | 0, hi, _ => by omega
  | k + 1, hi, hk => by
    unfold cz
    by_cases e : i = k
    · subst e
      have := cz_le h i (by omega)
      rw [if_pos h2, if_neg (by rw [h1]; decide)]; omega
    · have := cz_lt h h1 h2 k (by omega) (by omega)
      by_cases z : bt B k = true
      · rw [if_pos z, if_pos (h k (by omega) z)]; omega
      · rw [if_neg z]; split <;> omega
section MODEL1
variable {ad : Nat → Nat} {h : Mem} {w : Wk}
theorem K_X4_in {v a b : Int32} : Con ad mX4_in [.int v, .int a, .int b] h (qZ fun r h' => h' = h ∧ (r = true ↔ ¬ v < a ∧ ¬ b < v)) := by
  refine Con.mk vX4_in.1 vX4_in.2.2.2 [some (.int v), some (.int a), some (.int b)] rfl (Nat.le_of_ble_eq_true rfl) (fun Y hM => ?_)
  refine r_il aX4_in_0 rfl ?_
  refine r_il aX4_in_1 rfl ?_
  refine r_c_lt aX4_in_2 (fun c2 => ?_) (fun c2 => ?_)
  · -- to 14
    refine r_ki aX4_in_14 ?_
    exact r_zF hM aX4_in_15 rfl ⟨rfl, ⟨fun z => (by cases z), fun z => absurd c2 z.1⟩⟩
  · -- to 5
    refine r_il aX4_in_5 rfl ?_
    refine r_il aX4_in_6 rfl ?_
    refine r_c_gt aX4_in_7 (fun c7 => ?_) (fun c7 => ?_)
    · -- to 14
      refine r_ki aX4_in_14 ?_
      exact r_zF hM aX4_in_15 rfl ⟨rfl, ⟨fun z => (by cases z), fun z => absurd c7 z.2⟩⟩
    · -- to 10
      refine r_ki aX4_in_10 ?_
      refine r_go aX4_in_11 ?_
      exact r_zT hM aX4_in_15 rfl ⟨rfl, ⟨fun _ => ⟨c2, c7⟩, fun _ => rfl⟩⟩
/-- in(x, 0, n) -/
theorem in_N {x : Int32} {n : Nat} {b : Bool} (hn : n < 2147483647) (H : b = true ↔ ¬ x < nI 0 ∧ ¬ nI n < x) : b = (inN x (n + 1)).isSome := by
  rw [Bool.eq_iff_iff, H]
  constructor
  · rintro ⟨h1, h2⟩
    exact inN_le h1 h2 hn
  · intro h1
    obtain ⟨k, hk, rfl, -⟩ := inN_ex (by omega) h1
    exact ⟨nI_pos (by omega), fun z => by have := (nI_ltI (by omega) (by omega)).mp z; omega⟩
theorem K_X4_isState {x : Int32} (hW : WW w) (hR : MW h w) : Con ad mX4_isState [.ref (ad 91), .int x] h (qZ fun b h' => h' = h ∧ b = (inN x w.1).isSome) := by
  have hn := hR.1
  have h20 := hW.n
  refine Con.mk vX4_isState.1 vX4_isState.2.2.2.2 [some (.ref (ad 91)), some (.int x)] rfl (Nat.le_of_ble_eq_true rfl) (fun Y hM => ?_)
  refine r_il aX4_isState_0 rfl ?_
  refine r_ki aX4_isState_1 ?_
  refine r_al aX4_isState_2 rfl ?_
  refine r_gI aX4_isState_3 rfl rfl hn ?_
  refine r_ki aX4_isState_6 ?_
  refine r_isub aX4_isState_7 ?_
  refine r_SZ3 aX4_isState_8 vX4_in (K_X4_in) (fun x8 h8 Q8 => ?_)
  rw [Q8.1]
  refine r_zret hM aX4_isState_11 rfl ⟨rfl, ?_⟩
  rcases Nat.eq_zero_or_pos w.1 with z | z
  · rw [z] at Q8 ⊢
    have : inN x 0 = none := by
      unfold inN
      rw [if_neg]
      rintro ⟨a, b⟩
      exact b (by rw [Int32.le_iff_toInt_le, nI_toInt (by decide)]; rw [Int32.lt_iff_toInt_lt, Int32.toInt_zero] at a; omega)
    rw [this]
    cases hb : x8 with
    | false => rfl
    | true =>
      obtain ⟨h1, h2⟩ := Q8.2.mp hb
      exfalso
      apply h2
      rw [show nI 0 - nI 1 = (-1 : Int32) from by decide, Int32.lt_iff_toInt_lt, show (-1 : Int32).toInt = -1 from by decide]
      rw [Int32.lt_iff_toInt_lt, nI_toInt (by decide)] at h1
      omega
  · obtain ⟨m, hm⟩ : ∃ m, w.1 = m + 1 := ⟨w.1 - 1, by omega⟩
    rw [hm] at Q8 ⊢
    rw [pk_sub (by omega), Nat.add_sub_cancel] at Q8
    exact in_N (by omega) Q8.2
theorem K_X4_isSet {x : Int32} : Con ad mX4_isSet [.int x] h (qZ fun b h' => h' = h ∧ b = (inN x 256).isSome) := by
  refine Con.mk vX4_isSet.1 vX4_isSet.2.2.2 [some (.int x)] rfl (Nat.le_of_ble_eq_true rfl) (fun Y hM => ?_)
  refine r_il aX4_isSet_0 rfl ?_
  refine r_ki aX4_isSet_1 ?_
  refine r_ki aX4_isSet_2 ?_
  refine r_SZ3 aX4_isSet_5 vX4_in (K_X4_in) (fun x5 h5 Q5 => ?_)
  rw [Q5.1]
  exact r_zret hM aX4_isSet_8 rfl ⟨rfl, in_N (by decide) Q5.2⟩
theorem K_X4_forget : Con ad mX4_forget [.ref (ad 91)] h (qV fun h' => h'.1 91 18 = bI false ∧ (∀ j, j ≠ 18 → h'.1 91 j = h.1 91 j) ∧ (∀ l, l < 5 → h'.1 98 l = bI false) ∧ (∀ s, s < 20 → h'.1 97 s = -1) ∧ Fr (fun a => a = 91 ∨ a = 97 ∨ a = 98) h h') := by
  refine Con.mk vX4_forget.1 vX4_forget.2.2.2.2 [some (.ref (ad 91)), none] rfl (Nat.le_of_ble_eq_true rfl) (fun Y hM => ?_)
  have p2 : ∀ (k i : Nat) (g : Mem), 20 - i = k → i ≤ 20 → g.1 91 18 = bI false → (∀ j, j ≠ 18 → g.1 91 j = h.1 91 j) → (∀ l, l < 5 → g.1 98 l = bI false) → (∀ s, s < i → g.1 97 s = -1) → Fr (fun a => a = 91 ∨ a = 97 ∨ a = 98) h g → G Y ad mX4_forget 27 [some (.ref (ad 91)), some (.int (nI i))] [] g := by
    intro k
    induction k with
    | zero =>
      intro i g hk hi g1 g2 g3 g4 hF
      refine r_il aX4_forget_27 rfl ?_
      refine r_ki aX4_forget_28 ?_
      refine r_n_ge aX4_forget_30 (by omega) (by omega) (fun c30 => ?_) (fun c30 => ?_)
      · -- to 46
        exact r_vret hM aX4_forget_46 rfl ⟨g1, g2, g3, fun s hs => g4 s (by omega), hF⟩
      · omega
    | succ k ih =>
      intro i g hk hi g1 g2 g3 g4 hF
      refine r_il aX4_forget_27 rfl ?_
      refine r_ki aX4_forget_28 ?_
      refine r_n_ge aX4_forget_30 (by omega) (by omega) (fun c30 => ?_) (fun c30 => ?_)
      · omega
      · -- to 33
        refine r_al aX4_forget_33 rfl ?_
        refine r_getR aX4_forget_34 rfl rfl ?_
        refine r_il aX4_forget_37 rfl ?_
        refine r_ki aX4_forget_38 ?_
        refine r_iast aX4_forget_39 rfl (by omega) ?_
        refine r_in1 aX4_forget_40 rfl ?_
        refine r_go aX4_forget_43 ?_
        refine ih (i + 1) _ (by omega) (by omega) (by rw [si_o (by omega)]; exact g1) (fun j hj => by rw [si_o (by omega)]; exact g2 j hj) (fun l hl => by rw [si_o (by omega)]; exact g3 l hl) (fun s hs => ?_) (hF.tr (Fr.si (Or.inr (Or.inl rfl))))
        rw [si_1]
        by_cases e : s = i
        · simp [e]
        · simp [e]; exact g4 s (by omega)
  have p1 : ∀ (k i : Nat) (g : Mem), 5 - i = k → i ≤ 5 → g.1 91 18 = bI false → (∀ j, j ≠ 18 → g.1 91 j = h.1 91 j) → (∀ l, l < i → g.1 98 l = bI false) → Fr (fun a => a = 91 ∨ a = 97 ∨ a = 98) h g → G Y ad mX4_forget 7 [some (.ref (ad 91)), some (.int (nI i))] [] g := by
    intro k
    induction k with
    | zero =>
      intro i g hk hi g1 g2 g3 hF
      refine r_il aX4_forget_7 rfl ?_
      refine r_ki aX4_forget_8 ?_
      refine r_n_ge aX4_forget_9 (by omega) (by omega) (fun c9 => ?_) (fun c9 => ?_)
      · -- to 25
        refine r_ki aX4_forget_25 ?_
        refine r_is1 aX4_forget_26 rfl ?_
        exact p2 20 0 g rfl (by omega) g1 g2 (fun l hl => g3 l (by omega)) (fun s hs => by omega) hF
      · omega
    | succ k ih =>
      intro i g hk hi g1 g2 g3 hF
      refine r_il aX4_forget_7 rfl ?_
      refine r_ki aX4_forget_8 ?_
      refine r_n_ge aX4_forget_9 (by omega) (by omega) (fun c9 => ?_) (fun c9 => ?_)
      · omega
      · -- to 12
        refine r_al aX4_forget_12 rfl ?_
        refine r_getR aX4_forget_13 rfl rfl ?_
        refine r_il aX4_forget_16 rfl ?_
        refine r_ki aX4_forget_17 ?_
        refine r_ti (v := bI false) rfl ?_
        refine r_zast aX4_forget_18 rfl (by omega) ?_
        refine r_in1 aX4_forget_19 rfl ?_
        refine r_go aX4_forget_22 ?_
        refine ih (i + 1) _ (by omega) (by omega) (by rw [si_o (by omega)]; exact g1) (fun j hj => by rw [si_o (by omega)]; exact g2 j hj) (fun l hl => ?_) (hF.tr (Fr.si (Or.inr (Or.inr rfl))))
        rw [si_1]
        by_cases e : l = i
        · simp [e]
        · simp [e]; exact g3 l (by omega)
  refine r_al aX4_forget_0 rfl ?_
  refine r_ki aX4_forget_1 ?_
  refine r_ti (v := bI false) rfl ?_
  refine r_putZ aX4_forget_2 rfl rfl rfl ?_
  refine r_ki aX4_forget_5 ?_
  refine r_is1 aX4_forget_6 rfl ?_
  exact p1 5 0 _ rfl (by omega) (by simp [si_1]) (fun j hj => by rw [si_1]; simp [hj]) (fun l hl => by omega) (Fr.si (Or.inl rfl))
theorem K_X4_arrowOf {s t : Nat} (hW : WW w) (hR : MW h w) (hs : s < w.1) (ht : t < 20) : Con ad mX4_arrowOf [.ref (ad 91), .int (nI s), .int (nI t)] h (qI fun x h' => h' = h ∧ x = oI ((aIx t (w.2.2.1 s) 0).map (fun i => 20 * s + i))) := by
  have hl := hW.len s
  have hn := hR.2.2.1 s hs
  have h20 := hW.n
  generalize hA : w.2.2.1 s = A at hl hn ⊢
  refine Con.mk vX4_arrowOf.1 vX4_arrowOf.2.2.2.2 [some (.ref (ad 91)), some (.int (nI s)), some (.int (nI t)), none] rfl (Nat.le_of_ble_eq_true rfl) (fun Y hM => ?_)
  have loop : ∀ (k i : Nat), A.length - i = k → i ≤ A.length → aIx t A 0 = aIx t (A.drop i) i → G Y ad mX4_arrowOf 2 [some (.ref (ad 91)), some (.int (nI s)), some (.int (nI t)), some (.int (nI i))] [] h := by
    intro k
    induction k with
    | zero =>
      intro i hk hi hx
      refine r_il aX4_arrowOf_2 rfl ?_
      refine r_al aX4_arrowOf_3 rfl ?_
      refine r_getR aX4_arrowOf_4 rfl rfl ?_
      refine r_il aX4_arrowOf_7 rfl ?_
      refine r_xI aX4_arrowOf_8 rfl (by omega) hn ?_
      refine r_n_ge aX4_arrowOf_9 (by omega) (by omega) (fun c9 => ?_) (fun c9 => ?_)
      · -- to 40
        refine r_ki aX4_arrowOf_40 ?_
        exact r_iret hM aX4_arrowOf_41 rfl ⟨rfl, by rw [hx, List.drop_of_length_le (by omega)]; rfl⟩
      · omega
    | succ k ih =>
      intro i hk hi hx
      have hlt : i < A.length := by omega
      obtain ⟨e1, e2⟩ := hR.2.2.2.1 s hs i A[i] (by rw [hA]; exact List.getElem?_eq_getElem hlt)
      have b1 : A[i].1 < w.1 := ((hW.2.2.2.1 s).1 A[i] (by rw [hA]; exact List.getElem_mem hlt)).1
      rw [List.drop_eq_getElem_cons hlt] at hx
      refine r_il aX4_arrowOf_2 rfl ?_
      refine r_al aX4_arrowOf_3 rfl ?_
      refine r_getR aX4_arrowOf_4 rfl rfl ?_
      refine r_il aX4_arrowOf_7 rfl ?_
      refine r_xI aX4_arrowOf_8 rfl (by omega) hn ?_
      refine r_n_ge aX4_arrowOf_9 (by omega) (by omega) (fun c9 => ?_) (fun c9 => ?_)
      · omega
      · -- to 12
        refine r_al aX4_arrowOf_12 rfl ?_
        refine r_getR aX4_arrowOf_13 rfl rfl ?_
        refine r_ki aX4_arrowOf_16 ?_
        refine r_il aX4_arrowOf_18 rfl ?_
        refine r_imulN aX4_arrowOf_19 ?_
        refine r_il aX4_arrowOf_20 rfl ?_
        refine r_iaddN aX4_arrowOf_21 ?_
        refine r_xI aX4_arrowOf_22 rfl (by omega) e1 ?_
        refine r_il aX4_arrowOf_23 rfl ?_
        refine r_n_ne aX4_arrowOf_24 (by omega) (by omega) (fun c24 => ?_) (fun c24 => ?_)
        · -- to 34
          refine r_in3 aX4_arrowOf_34 rfl ?_
          refine r_go aX4_arrowOf_37 ?_
          exact ih (i + 1) (by omega) (by omega) (by rw [hx, aIx, if_neg c24])
        · -- to 27
          refine r_ki aX4_arrowOf_27 ?_
          refine r_il aX4_arrowOf_29 rfl ?_
          refine r_imulN aX4_arrowOf_30 ?_
          refine r_il aX4_arrowOf_31 rfl ?_
          refine r_iaddN aX4_arrowOf_32 ?_
          exact r_iret hM aX4_arrowOf_33 rfl ⟨rfl, by rw [hx, aIx, if_pos c24]; rfl⟩
  refine r_ki aX4_arrowOf_0 ?_
  refine r_is3 aX4_arrowOf_1 rfl ?_
  exact loop _ 0 rfl (by omega) rfl
theorem K_X4_comes {s : Nat} (hW : WW w) (hR : MW h w) (hs : s < w.1) : Con ad mX4_comes [.ref (ad 91), .int (nI s)] h (qI fun x h' => h' = h ∧ ∀ t, t < w.1 → bitAt x t = rB w s t) := by
  have h20 := hW.n
  have hn := hR.1
  refine Con.mk vX4_comes.1 vX4_comes.2.2.2.2 [some (.ref (ad 91)), some (.int (nI s)), none, none, none, none] rfl (Nat.le_of_ble_eq_true rfl) (fun Y hM => ?_)
  have inner : ∀ (B : Int32), (∀ t, t < 32 → bitAt B t = true → t < w.1 ∧ Rch w s t) → ∀ (u : Nat), u < w.1 → bitAt B u = true → (∀ A : Int32, (∀ t, t < 32 → bitAt A t = true → t < w.1 ∧ Rch w s t) → (∀ t, t < 32 → bitAt B t = true → bitAt A t = true) → (∀ u', u' < u + 1 → bitAt B u' = true → ∀ v, edg w u' v → bitAt A v = true) → G Y ad mX4_comes 16 [some (.ref (ad 91)), some (.int (nI s)), some (.int A), some (.int B), some (.int (nI (u + 1))), none] [] h) → ∀ (k i : Nat) (A : Int32), (w.2.2.1 u).length - i = k → i ≤ (w.2.2.1 u).length → (∀ t, t < 32 → bitAt A t = true → t < w.1 ∧ Rch w s t) → (∀ t, t < 32 → bitAt B t = true → bitAt A t = true) → (∀ u', u' < u → bitAt B u' = true → ∀ v, edg w u' v → bitAt A v = true) → (∀ j p, j < i → (w.2.2.1 u)[j]? = some p → bitAt A p.1 = true) → G Y ad mX4_comes 28 [some (.ref (ad 91)), some (.int (nI s)), some (.int A), some (.int B), some (.int (nI u)), some (.int (nI i))] [] h := by
    intro B hB u hu hbu out k
    have hau := hR.2.2.1 u hu
    have hlen := hW.len u
    induction k with
    | zero =>
      intro i A hk hi h1 h2 h3 h4
      refine r_il aX4_comes_28 rfl ?_
      refine r_il aX4_comes_29 rfl ?_
      refine r_ishr aX4_comes_31 ?_
      refine r_ki aX4_comes_32 ?_
      refine r_iand aX4_comes_33 ?_
      refine r_ki aX4_comes_34 ?_
      refine r_c_ne aX4_comes_35 (fun c35 => ?_) (fun c35 => ?_)
      · exact absurd (bitAt_f c35) (by rw [hbu]; decide)
      · -- to 38
        refine r_il aX4_comes_38 rfl ?_
        refine r_al aX4_comes_40 rfl ?_
        refine r_getR aX4_comes_41 rfl rfl ?_
        refine r_il aX4_comes_44 rfl ?_
        refine r_xI aX4_comes_46 rfl (by omega) hau ?_
        refine r_n_ge aX4_comes_47 (by omega) (by omega) (fun c47 => ?_) (fun c47 => ?_)
        · -- to 74
          refine r_in4 aX4_comes_74 rfl ?_
          refine r_go aX4_comes_77 ?_
          refine r_f5 ?_
          refine out A h1 h2 (fun u' q1 q2 v q3 => ?_)
          by_cases e : u' = u
          · subst e
            obtain ⟨p, hp, rfl⟩ := q3
            obtain ⟨j, hj⟩ := List.getElem?_of_mem hp
            exact h4 j p (by have := (List.getElem?_eq_some_iff.mp hj).1; omega) hj
          · exact h3 u' (by omega) q2 v q3
        · omega
    | succ k ih =>
      intro i A hk hi h1 h2 h3 h4
      have hlt : i < (w.2.2.1 u).length := by omega
      obtain ⟨e1, -⟩ := hR.2.2.2.1 u hu i _ (List.getElem?_eq_getElem hlt)
      have hmem : (w.2.2.1 u)[i] ∈ w.2.2.1 u := List.getElem_mem hlt
      have b1 := ((hW.2.2.2.1 u).1 _ hmem).1
      refine r_il aX4_comes_28 rfl ?_
      refine r_il aX4_comes_29 rfl ?_
      refine r_ishr aX4_comes_31 ?_
      refine r_ki aX4_comes_32 ?_
      refine r_iand aX4_comes_33 ?_
      refine r_ki aX4_comes_34 ?_
      refine r_c_ne aX4_comes_35 (fun c35 => ?_) (fun c35 => ?_)
      · exact absurd (bitAt_f c35) (by rw [hbu]; decide)
      · -- to 38
        refine r_il aX4_comes_38 rfl ?_
        refine r_al aX4_comes_40 rfl ?_
        refine r_getR aX4_comes_41 rfl rfl ?_
        refine r_il aX4_comes_44 rfl ?_
        refine r_xI aX4_comes_46 rfl (by omega) hau ?_
        refine r_n_ge aX4_comes_47 (by omega) (by omega) (fun c47 => ?_) (fun c47 => ?_)
        · omega
        · -- to 50
          refine r_il aX4_comes_50 rfl ?_
          refine r_ki aX4_comes_51 ?_
          refine r_al aX4_comes_52 rfl ?_
          refine r_getR aX4_comes_53 rfl rfl ?_
          refine r_ki aX4_comes_56 ?_
          refine r_il aX4_comes_58 rfl ?_
          refine r_imulN aX4_comes_60 ?_
          refine r_il aX4_comes_61 rfl ?_
          refine r_iaddN aX4_comes_63 ?_
          refine r_xI aX4_comes_64 rfl (by omega) e1 ?_
          refine r_ishl aX4_comes_65 ?_
          refine r_ior aX4_comes_66 ?_
          refine r_is2 aX4_comes_67 rfl ?_
          refine r_in5 aX4_comes_68 rfl ?_
          refine r_go aX4_comes_71 ?_
          refine ih (i + 1) _ (by omega) (by omega) (fun t q1 q2 => ?_) (fun t q1 q2 => ?_) (fun u' q1 q2 v q3 => ?_) (fun j p q1 q2 => ?_)
          · rw [bitAt_or q1, Bool.or_eq_true, bitAt_one (by omega) q1, decide_eq_true_eq] at q2
            rcases q2 with q | q
            · exact h1 t q1 q
            · rw [← q]
              exact ⟨b1, (hB u (by omega) hbu).2.tr (Rch.hd ⟨_, hmem, rfl⟩ Rch.rf)⟩
          · rw [bitAt_or q1, h2 t q1 q2]; rfl
          · have hv : v < 32 := by
              obtain ⟨p, hp, rfl⟩ := q3
              have := ((hW.2.2.2.1 u').1 p hp).1
              omega
            rw [bitAt_or hv, h3 u' q1 q2 v q3]; rfl
          · have hv : p.1 < 32 := by
              have := ((hW.2.2.2.1 u).1 p (List.mem_of_getElem? q2)).1
              omega
            rw [bitAt_or hv, Bool.or_eq_true]
            by_cases e : j = i
            · subst e
              rw [List.getElem?_eq_getElem hlt] at q2
              cases q2
              right
              rw [bitAt_one (by omega) hv]; simp
            · exact Or.inl (h4 j p (by omega) q2)
  have mid : ∀ (B : Int32), (∀ t, t < 32 → bitAt B t = true → t < w.1 ∧ Rch w s t) → (∀ A : Int32, (∀ t, t < 32 → bitAt A t = true → t < w.1 ∧ Rch w s t) → (∀ t, t < 32 → bitAt B t = true → bitAt A t = true) → (∀ u', u' < w.1 → bitAt B u' = true → ∀ v, edg w u' v → bitAt A v = true) → G Y ad mX4_comes 6 [some (.ref (ad 91)), some (.int (nI s)), some (.int A), some (.int B), none, none] [] h) → ∀ (k u : Nat) (A : Int32), w.1 - u = k → u ≤ w.1 → (∀ t, t < 32 → bitAt A t = true → t < w.1 ∧ Rch w s t) → (∀ t, t < 32 → bitAt B t = true → bitAt A t = true) → (∀ u', u' < u → bitAt B u' = true → ∀ v, edg w u' v → bitAt A v = true) → G Y ad mX4_comes 16 [some (.ref (ad 91)), some (.int (nI s)), some (.int A), some (.int B), some (.int (nI u)), none] [] h := by
    intro B hB out k
    induction k with
    | zero =>
      intro u A hk hu h1 h2 h3
      refine r_il aX4_comes_16 rfl ?_
      refine r_al aX4_comes_18 rfl ?_
      refine r_gI aX4_comes_19 rfl rfl hn ?_
      refine r_n_ge aX4_comes_22 (by omega) (by omega) (fun c22 => ?_) (fun c22 => ?_)
      · -- to 80
        refine r_go aX4_comes_80 ?_
        refine r_f4 ?_
        exact out A h1 h2 (fun u' q => h3 u' (by omega))
      · omega
    | succ k ih =>
      intro u A hk hu h1 h2 h3
      by_cases hbu : bitAt B u = true
      · have ii := inner B hB u (by omega) hbu (fun A' a1 a2 a3 => ih (u + 1) A' (by omega) (by omega) a1 a2 a3) _ 0 A rfl (by omega) h1 h2 h3 (fun j p q => by omega)
        refine r_il aX4_comes_16 rfl ?_
        refine r_al aX4_comes_18 rfl ?_
        refine r_gI aX4_comes_19 rfl rfl hn ?_
        refine r_n_ge aX4_comes_22 (by omega) (by omega) (fun c22 => ?_) (fun c22 => ?_)
        · omega
        · -- to 25
          refine r_ki aX4_comes_25 ?_
          refine r_is5 aX4_comes_26 rfl ?_
          exact ii
      · skip
        refine r_il aX4_comes_16 rfl ?_
        refine r_al aX4_comes_18 rfl ?_
        refine r_gI aX4_comes_19 rfl rfl hn ?_
        refine r_n_ge aX4_comes_22 (by omega) (by omega) (fun c22 => ?_) (fun c22 => ?_)
        · omega
        · -- to 25
          refine r_ki aX4_comes_25 ?_
          refine r_is5 aX4_comes_26 rfl ?_
          refine r_il aX4_comes_28 rfl ?_
          refine r_il aX4_comes_29 rfl ?_
          refine r_ishr aX4_comes_31 ?_
          refine r_ki aX4_comes_32 ?_
          refine r_iand aX4_comes_33 ?_
          refine r_ki aX4_comes_34 ?_
          refine r_c_ne aX4_comes_35 (fun c35 => ?_) (fun c35 => ?_)
          · -- to 74
            refine r_in4 aX4_comes_74 rfl ?_
            refine r_go aX4_comes_77 ?_
            refine r_f5 ?_
            exact ih (u + 1) A (by omega) (by omega) h1 h2 (fun u' q1 q2 => by
              by_cases e : u' = u
              · subst e; exact absurd q2 hbu
              · exact h3 u' (by omega) q2)
          · exact absurd (bitAt_t c35) hbu
  have outer : ∀ (k : Nat) (A B : Int32), cz B 32 < k → (∀ t, t < 32 → bitAt A t = true → t < w.1 ∧ Rch w s t) → bitAt A s = true → (∀ t, t < 32 → bitAt B t = true → bitAt A t = true) → (∀ u', u' < w.1 → bitAt B u' = true → ∀ v, edg w u' v → bitAt A v = true) → G Y ad mX4_comes 6 [some (.ref (ad 91)), some (.int (nI s)), some (.int A), some (.int B), none, none] [] h := by
    intro k
    induction k with
    | zero => intro A B hc; omega
    | succ k ih =>
      intro A B hc h1 h2 h3 h4
      by_cases e : B = A
      · subst e
        refine r_il aX4_comes_6 rfl ?_
        refine r_il aX4_comes_7 rfl ?_
        refine r_c_eq aX4_comes_8 (fun c8 => ?_) (fun c8 => ?_)
        · -- to 83
          refine r_il aX4_comes_83 rfl ?_
          refine r_iret hM aX4_comes_84 rfl ⟨rfl, fun t ht => ?_⟩
          rw [Bool.eq_iff_iff, rB_iff]
          refine ⟨fun q => (h1 t (by omega) q).2, fun ⟨k, hk⟩ => ?_⟩
          have cl : ∀ (k a : Nat), bitAt B a = true → a < w.1 → pth w k a t → bitAt B t = true := by
            intro k
            induction k with
            | zero => intro a ha _ hp; cases hp; exact ha
            | succ k ih2 =>
              intro a ha hlt hp
              obtain ⟨u, hu, hp⟩ := hp
              have hbu := h4 a hlt ha u hu
              have hult : u < w.1 := by
                obtain ⟨p, hm, rfl⟩ := hu
                exact ((hW.2.2.2.1 a).1 p hm).1
              exact ih2 u hbu hult hp
          exact cl k s h2 hs hk
        · exact absurd rfl c8
      · have hlt : cz A 32 < cz B 32 := by
          have hbt : ∀ i, i < 32 → bt B i = true → bt A i = true := fun i hi q => by rw [← bitAt_bt hi] at q ⊢; exact h3 i hi q
          have hex : ∃ i, i < 32 ∧ bt B i = false ∧ bt A i = true := by
            apply Classical.byContradiction
            intro q
            apply e
            apply b_ext
            intro i hi
            cases hb : bt B i with
            | true => rw [hbt i hi hb]
            | false =>
              cases ha : bt A i with
              | false => rfl
              | true => exact absurd ⟨i, hi, hb, ha⟩ q
          obtain ⟨i, hi, x1, x2⟩ := hex
          exact cz_lt hbt x1 x2 32 hi (Nat.le_refl _)
        have mm := mid A h1 (fun A' a1 a2 a3 => ih A' A (by omega) a1 (a2 s (by omega) h2) a2 a3) _ 0 A rfl (by omega) h1 (fun _ _ q => q) (fun u' q => by omega)
        refine r_il aX4_comes_6 rfl ?_
        refine r_il aX4_comes_7 rfl ?_
        refine r_c_eq aX4_comes_8 (fun c8 => ?_) (fun c8 => ?_)
        · exact absurd c8 (fun q => e q)
        · -- to 11
          refine r_il aX4_comes_11 rfl ?_
          refine r_is3 aX4_comes_12 rfl ?_
          refine r_ki aX4_comes_13 ?_
          refine r_is4 aX4_comes_14 rfl ?_
          exact mm
  refine r_ki aX4_comes_0 ?_
  refine r_il aX4_comes_1 rfl ?_
  refine r_ishl aX4_comes_2 ?_
  refine r_is2 aX4_comes_3 rfl ?_
  refine r_ki aX4_comes_4 ?_
  refine r_is3 aX4_comes_5 rfl ?_
  refine outer (cz (nI 0) 32 + 1) _ _ (by omega) (fun t q1 q2 => ?_) ?_ (fun t q1 q2 => ?_) (fun u' q1 q2 => ?_)
  · rw [bitAt_one (by omega) q1, decide_eq_true_eq] at q2
    rw [← q2]; exact ⟨hs, Rch.rf⟩
  · rw [bitAt_one (by omega) (by omega)]; simp
  · rw [bitAt_bt q1, bt_0 t q1] at q2; cases q2
  · rw [bitAt_bt (by omega), bt_0 u' (by omega)] at q2; cases q2
end MODEL1

/-- only listing l, and the shares -/
def GL (l : Nat) (h h' : Mem) : Prop := (∀ a, a ≠ 91 → ¬ (98 ≤ a ∧ a < 107) → ¬ (109 ≤ a ∧ a < 112) → h'.1 a = h.1 a ∧ h'.2 a = h.2 a) ∧ (∀ j, j ≠ 21 → h'.1 91 j = h.1 91 j) ∧ (∀ l', l' ≠ l → (h'.1 98 l' = h.1 98 l' ∧ h'.1 99 l' = h.1 99 l' ∧ h'.1 100 l' = h.1 100 l' ∧ h'.1 101 l' = h.1 101 l') ∧ (∀ i, i < 60 → h'.1 102 (60 * l' + i) = h.1 102 (60 * l' + i) ∧ h'.1 103 (60 * l' + i) = h.1 103 (60 * l' + i) ∧ h'.2 104 (60 * l' + i) = h.2 104 (60 * l' + i)) ∧ (∀ i, i < 8 → h'.2 105 (8 * l' + i) = h.2 105 (8 * l' + i)) ∧ (∀ i, i < 20 → h'.2 106 (20 * l' + i) = h.2 106 (20 * l' + i)))
theorem GL.rf {l : Nat} {h : Mem} : GL l h h := ⟨fun _ _ _ _ => ⟨rfl, rfl⟩, fun _ _ => rfl, fun _ _ => ⟨⟨rfl, rfl, rfl, rfl⟩, fun _ _ => ⟨rfl, rfl, rfl⟩, fun _ _ => rfl, fun _ _ => rfl⟩⟩
theorem GL.tr {l : Nat} {h h1 h2 : Mem} (a : GL l h h1) (b : GL l h1 h2) : GL l h h2 := by
  refine ⟨fun x p q r => ⟨(b.1 x p q r).1.trans (a.1 x p q r).1, (b.1 x p q r).2.trans (a.1 x p q r).2⟩, fun j hj => (b.2.1 j hj).trans (a.2.1 j hj), fun l' hl => ?_⟩
  obtain ⟨⟨a1, a2, a3, a4⟩, a5, a6, a7⟩ := a.2.2 l' hl
  obtain ⟨⟨b1, b2, b3, b4⟩, b5, b6, b7⟩ := b.2.2 l' hl
  exact ⟨⟨b1.trans a1, b2.trans a2, b3.trans a3, b4.trans a4⟩, fun i hi => ⟨(b5 i hi).1.trans (a5 i hi).1, (b5 i hi).2.1.trans (a5 i hi).2.1, (b5 i hi).2.2.trans (a5 i hi).2.2⟩, fun i hi => (b6 i hi).trans (a6 i hi), fun i hi => (b7 i hi).trans (a7 i hi)⟩
theorem GL.si {l a i : Nat} {h : Mem} {x : Int32} (ok : (a = 91 ∧ i = 21) ∨ a = 109 ∨ a = 110 ∨ ((a = 98 ∨ a = 99 ∨ a = 100 ∨ a = 101) ∧ i = l) ∨ ((a = 102 ∨ a = 103) ∧ 60 * l ≤ i ∧ i < 60 * l + 60)) : GL l h (si h a i x) := by
  refine ⟨fun b p q r => ⟨si_o (by omega), rfl⟩, fun j hj => by rw [si_1, if_neg (by omega)], fun l' hl => ⟨⟨by rw [si_1, if_neg (by omega)], by rw [si_1, if_neg (by omega)], by rw [si_1, if_neg (by omega)], by rw [si_1, if_neg (by omega)]⟩, fun k hk => ⟨by rw [si_1, if_neg (by omega)], by rw [si_1, if_neg (by omega)], rfl⟩, fun _ _ => rfl, fun _ _ => rfl⟩⟩
theorem GL.sl {l a i : Nat} {h : Mem} {x : Int64} (ok : a = 111 ∨ (a = 104 ∧ 60 * l ≤ i ∧ i < 60 * l + 60) ∨ (a = 105 ∧ 8 * l ≤ i ∧ i < 8 * l + 8) ∨ (a = 106 ∧ 20 * l ≤ i ∧ i < 20 * l + 20)) : GL l h (sl h a i x) := by
  refine ⟨fun b p q r => ⟨rfl, sl_o (by omega)⟩, fun j hj => rfl, fun l' hl => ⟨⟨rfl, rfl, rfl, rfl⟩, fun k hk => ⟨rfl, rfl, by rw [sl_2, if_neg (by omega)]⟩, fun k hk => by rw [sl_2, if_neg (by omega)], fun k hk => by rw [sl_2, if_neg (by omega)]⟩⟩
theorem MW.gl {h h' : Mem} {w : Wk} {l : Nat} (H : MW h w) (G : GL l h h') : MW h' w := H.cong (G.2.1 0 (by omega)) (fun a h1 h2 => (G.1 a (by omega) (by omega) (by omega)).1)
/-- only the shares -/
def SG (h h' : Mem) : Prop := Fr (fun a => a = 91 ∨ (109 ≤ a ∧ a < 112)) h h' ∧ ∀ j, j ≠ 21 → h'.1 91 j = h.1 91 j
theorem SG.rf {h : Mem} : SG h h := ⟨Fr.rf, fun _ _ => rfl⟩
theorem SG.tr {h h1 h2 : Mem} (a : SG h h1) (b : SG h1 h2) : SG h h2 := ⟨a.1.tr b.1, fun j hj => (b.2 j hj).trans (a.2 j hj)⟩
theorem SG.row {h h' : Mem} (H : SG h h') {a : Nat} (h1 : a ≠ 91) (h2 : ¬ (109 ≤ a ∧ a < 112)) : h'.1 a = h.1 a ∧ h'.2 a = h.2 a := H.1 a (fun z => by rcases z with z | z; exact h1 z; exact h2 z)
theorem SG.gl {l : Nat} {h h' : Mem} (H : SG h h') : GL l h h' := by
  have r : ∀ a, 98 ≤ a → a < 107 → h'.1 a = h.1 a ∧ h'.2 a = h.2 a := fun a h1 h2 => H.row (by omega) (by omega)
  refine ⟨fun a p q z => H.row p z, H.2, fun l' _ => ⟨⟨by rw [(r 98 (by omega) (by omega)).1], by rw [(r 99 (by omega) (by omega)).1], by rw [(r 100 (by omega) (by omega)).1], by rw [(r 101 (by omega) (by omega)).1]⟩, fun i _ => ⟨by rw [(r 102 (by omega) (by omega)).1], by rw [(r 103 (by omega) (by omega)).1], by rw [(r 104 (by omega) (by omega)).2]⟩, fun i _ => by rw [(r 105 (by omega) (by omega)).2], fun i _ => by rw [(r 106 (by omega) (by omega)).2]⟩⟩
theorem ML.sg {h h' : Mem} {l : Nat} {L : List Itm} {F R : Nat → Nat} (H : ML h l L F R) (S : SG h h') : ML h' l L F R := H.cong (fun a h1 h2 => S.row (by omega) (by omega))
theorem MW.sg {h h' : Mem} {w : Wk} (H : MW h w) (S : SG h h') : MW h' w := H.gl (S.gl (l := 0))
def MSh (h : Mem) (Sh : List Itm) : Prop := h.1 91 21 = nI Sh.length ∧ Items h 109 110 111 0 Sh
theorem oI_map {o : Option Nat} {f : Nat → Nat} : oI (o.map f) = match o with
    | none => -1
    | some i => nI (f i) := by cases o <;> rfl
section MODEL3
variable {ad : Nat → Nat} {h : Mem} {w : Wk} {l : Nat} {L Sh : List Itm} {F R : Nat → Nat} {jn : Bool}
theorem K_X4_open {s : Nat} (hl : l < 5) (hs : s < 20) : Con ad mX4_open [.ref (ad 91), .int (nI l), .int (nI s)] h (qV fun h' => ML h' l [(s, 0, 1152921504606846976)] (fun _ => 0) (fun _ => 0) ∧ h'.1 98 l = bI true ∧ h'.1 99 l = nI s ∧ h'.1 100 l = nI 0 ∧ GL l h h') := by
  refine Con.mk vX4_open.1 vX4_open.2.2.2.2 [some (.ref (ad 91)), some (.int (nI l)), some (.int (nI s)), none] rfl (Nat.le_of_ble_eq_true rfl) (fun Y hM => ?_)
  have p2 : ∀ (k i : Nat) (g : Mem), 20 - i = k → i ≤ 20 → g.1 101 l = nI 1 → Items g 102 103 104 (60 * l) [(s, 0, 1152921504606846976)] → Nums g 105 (8 * l) 8 (fun _ => 0) → (∀ j, j < i → g.2 106 (20 * l + j) = lN 0) → g.1 98 l = bI true → g.1 99 l = nI s → g.1 100 l = nI 0 → GL l h g → G Y ad mX4_open 88 [some (.ref (ad 91)), some (.int (nI l)), some (.int (nI s)), some (.int (nI i))] [] g := by
    intro k
    induction k with
    | zero =>
      intro i g hk hi a1 a2 a3 a4 a5 a6 a7 a8
      refine r_il aX4_open_88 rfl ?_
      refine r_ki aX4_open_89 ?_
      refine r_n_ge aX4_open_91 (by omega) (by omega) (fun c91 => ?_) (fun c91 => ?_)
      · -- to 112
        exact r_vret hM aX4_open_112 rfl ⟨⟨a1, a2, a3, fun j hj => a4 j (by omega)⟩, a5, a6, a7, a8⟩
      · omega
    | succ k ih =>
      intro i g hk hi a1 a2 a3 a4 a5 a6 a7 a8
      refine r_il aX4_open_88 rfl ?_
      refine r_ki aX4_open_89 ?_
      refine r_n_ge aX4_open_91 (by omega) (by omega) (fun c91 => ?_) (fun c91 => ?_)
      · omega
      · -- to 94
        refine r_al aX4_open_94 rfl ?_
        refine r_getR aX4_open_95 rfl rfl ?_
        refine r_ki aX4_open_98 ?_
        refine r_il aX4_open_100 rfl ?_
        refine r_imulN aX4_open_101 ?_
        refine r_il aX4_open_102 rfl ?_
        refine r_iaddN aX4_open_103 ?_
        refine r_kl aX4_open_104 ?_
        refine r_last aX4_open_105 rfl (by omega) ?_
        refine r_in3 aX4_open_106 rfl ?_
        refine r_go aX4_open_109 ?_
        refine ih (i + 1) _ (by omega) (by omega) a1 (a2.cong (fun _ _ => rfl) (fun _ _ => rfl) (fun _ _ => by rw [sl_o (by omega)])) (fun j hj => by rw [sl_o (by omega)]; exact a3 j hj) (fun j hj => ?_) a5 a6 a7 (a8.tr (GL.sl (Or.inr (Or.inr (Or.inr ⟨rfl, by omega, by omega⟩)))))
        rw [sl_2]
        by_cases e : j = i
        · rw [if_pos ⟨rfl, by omega⟩]
        · rw [if_neg (by omega)]; exact a4 j (by omega)
  have p1 : ∀ (k i : Nat) (g : Mem), 8 - i = k → i ≤ 8 → g.1 101 l = nI 1 → Items g 102 103 104 (60 * l) [(s, 0, 1152921504606846976)] → (∀ j, j < i → g.2 105 (8 * l + j) = lN 0) → g.1 98 l = bI true → g.1 99 l = nI s → g.1 100 l = nI 0 → GL l h g → G Y ad mX4_open 62 [some (.ref (ad 91)), some (.int (nI l)), some (.int (nI s)), some (.int (nI i))] [] g := by
    intro k
    induction k with
    | zero =>
      intro i g hk hi a1 a2 a3 a5 a6 a7 a8
      refine r_il aX4_open_62 rfl ?_
      refine r_ki aX4_open_63 ?_
      refine r_n_ge aX4_open_65 (by omega) (by omega) (fun c65 => ?_) (fun c65 => ?_)
      · -- to 86
        refine r_ki aX4_open_86 ?_
        refine r_is3 aX4_open_87 rfl ?_
        exact p2 20 0 g rfl (by omega) a1 a2 (fun j hj => a3 j (by omega)) (fun j hj => by omega) a5 a6 a7 a8
      · omega
    | succ k ih =>
      intro i g hk hi a1 a2 a3 a5 a6 a7 a8
      refine r_il aX4_open_62 rfl ?_
      refine r_ki aX4_open_63 ?_
      refine r_n_ge aX4_open_65 (by omega) (by omega) (fun c65 => ?_) (fun c65 => ?_)
      · omega
      · -- to 68
        refine r_al aX4_open_68 rfl ?_
        refine r_getR aX4_open_69 rfl rfl ?_
        refine r_ki aX4_open_72 ?_
        refine r_il aX4_open_74 rfl ?_
        refine r_imulN aX4_open_75 ?_
        refine r_il aX4_open_76 rfl ?_
        refine r_iaddN aX4_open_77 ?_
        refine r_kl aX4_open_78 ?_
        refine r_last aX4_open_79 rfl (by omega) ?_
        refine r_in3 aX4_open_80 rfl ?_
        refine r_go aX4_open_83 ?_
        refine ih (i + 1) _ (by omega) (by omega) a1 (a2.cong (fun _ _ => rfl) (fun _ _ => rfl) (fun _ _ => by rw [sl_o (by omega)])) (fun j hj => ?_) a5 a6 a7 (a8.tr (GL.sl (Or.inr (Or.inr (Or.inl ⟨rfl, by omega, by omega⟩)))))
        rw [sl_2]
        by_cases e : j = i
        · rw [if_pos ⟨rfl, by omega⟩]
        · rw [if_neg (by omega)]; exact a3 j (by omega)
  refine r_al aX4_open_0 rfl ?_
  refine r_getR aX4_open_1 rfl rfl ?_
  refine r_il aX4_open_4 rfl ?_
  refine r_ki aX4_open_5 ?_
  refine r_ti (v := bI true) rfl ?_
  refine r_zast aX4_open_6 rfl (by omega) ?_
  refine r_al aX4_open_7 rfl ?_
  refine r_getR aX4_open_8 rfl rfl ?_
  refine r_il aX4_open_11 rfl ?_
  refine r_il aX4_open_12 rfl ?_
  refine r_iast aX4_open_13 rfl (by omega) ?_
  refine r_al aX4_open_14 rfl ?_
  refine r_getR aX4_open_15 rfl rfl ?_
  refine r_il aX4_open_18 rfl ?_
  refine r_ki aX4_open_19 ?_
  refine r_iast aX4_open_20 rfl (by omega) ?_
  refine r_al aX4_open_21 rfl ?_
  refine r_getR aX4_open_22 rfl rfl ?_
  refine r_il aX4_open_25 rfl ?_
  refine r_ki aX4_open_26 ?_
  refine r_iast aX4_open_27 rfl (by omega) ?_
  refine r_al aX4_open_28 rfl ?_
  refine r_getR aX4_open_29 rfl rfl ?_
  refine r_ki aX4_open_32 ?_
  refine r_il aX4_open_34 rfl ?_
  refine r_imulN aX4_open_35 ?_
  refine r_il aX4_open_36 rfl ?_
  refine r_iast aX4_open_37 rfl (by omega) ?_
  refine r_al aX4_open_38 rfl ?_
  refine r_getR aX4_open_39 rfl rfl ?_
  refine r_ki aX4_open_42 ?_
  refine r_il aX4_open_44 rfl ?_
  refine r_imulN aX4_open_45 ?_
  refine r_ki aX4_open_46 ?_
  refine r_iast aX4_open_47 rfl (by omega) ?_
  refine r_al aX4_open_48 rfl ?_
  refine r_getR aX4_open_49 rfl rfl ?_
  refine r_ki aX4_open_52 ?_
  refine r_il aX4_open_54 rfl ?_
  refine r_imulN aX4_open_55 ?_
  refine r_kl aX4_open_56 ?_
  refine r_last aX4_open_59 rfl (by omega) ?_
  refine r_ki aX4_open_60 ?_
  refine r_is3 aX4_open_61 rfl ?_
  refine p1 8 0 _ rfl (by omega) ?_ ?_ (fun j hj => by omega) ?_ ?_ ?_ ?_
  · rw [sl_1, si_o (by omega), si_o (by omega), si_row, pk_us]
  · intro j p hp
    have h0 : j < 1 := (List.getElem?_eq_some_iff.mp hp).1
    have hj : j = 0 := by omega
    subst hj
    cases hp
    refine ⟨?_, ?_, ?_⟩
    · rw [sl_1, si_o (by omega), si_row, Nat.add_zero, pk_us]
    · rw [sl_1, si_row, Nat.add_zero, pk_us]
    · rw [sl_row, Nat.add_zero, pk_uLs]
  · rw [sl_1, si_o (by omega), si_o (by omega), si_o (by omega), si_o (by omega), si_o (by omega), si_row, pk_us]
  · rw [sl_1, si_o (by omega), si_o (by omega), si_o (by omega), si_o (by omega), si_row, pk_us]
  · rw [sl_1, si_o (by omega), si_o (by omega), si_o (by omega), si_row, pk_us]
  · exact (GL.si (by omega)).tr ((GL.si (by omega)).tr ((GL.si (by omega)).tr ((GL.si (by omega)).tr ((GL.si (by omega)).tr ((GL.si (by omega)).tr (GL.sl (by omega)))))))
theorem K_X4_next {kind : Nat} (hl : l < 5) (hW : IW L) (hn : h.1 101 l = nI L.length) (hI : Items h 102 103 104 (60 * l) L) (hk : kind ≤ 2) : Con ad mX4_next [.ref (ad 91), .int (nI l), .int (nI kind)] h (qI fun x h' => h' = h ∧ x = oI (nxt kind L)) := by
  have h60 := hW.1
  refine Con.mk vX4_next.1 vX4_next.2.2.2.2 [some (.ref (ad 91)), some (.int (nI l)), some (.int (nI kind)), none, none, none, none, none] rfl (Nat.le_of_ble_eq_true rfl) (fun Y hM => ?_)
  have loop : ∀ (k j : Nat), L.length - (j + 1) = k → j + 1 ≤ L.length → G Y ad mX4_next 5 [some (.ref (ad 91)), some (.int (nI l)), some (.int (nI kind)), some (.int (nI (nxB kind L j))), some (.int (nI (j + 1))), none, none, none] [] h := by
    intro k
    induction k with
    | zero =>
      intro j hk0 hj
      have e : j = L.length - 1 := by omega
      refine r_il aX4_next_5 rfl ?_
      refine r_al aX4_next_7 rfl ?_
      refine r_getR aX4_next_8 rfl rfl ?_
      refine r_il aX4_next_11 rfl ?_
      refine r_xI aX4_next_12 rfl (by omega) hn ?_
      refine r_n_ge aX4_next_13 (by omega) (by omega) (fun c13 => ?_) (fun c13 => ?_)
      · -- to 112
        refine r_il aX4_next_112 rfl ?_
        exact r_iret hM aX4_next_113 rfl ⟨rfl, by unfold nxt; rw [if_neg (by omega), ← e]; rfl⟩
      · omega
    | succ k ih =>
      intro j hk0 hj
      have hb := nxB_le kind L j
      obtain ⟨e1, e2, e3⟩ := hI.gi (i := j + 1) (by omega)
      obtain ⟨f1, f2, f3⟩ := hI.gi (i := nxB kind L j) (by omega)
      obtain ⟨b1, b2, b3⟩ := hW.gi (i := j + 1) (by omega)
      obtain ⟨d1, d2, d3⟩ := hW.gi (i := nxB kind L j) (by omega)
      have key := ih (j + 1) (by omega) (by omega)
      rw [nxB] at key
      have fT : bett kind (gi L (j + 1)) (gi L (nxB kind L j)) → G Y ad mX4_next 87 [some (.ref (ad 91)), some (.int (nI l)), some (.int (nI kind)), some (.int (nI (nxB kind L j))), some (.int (nI (j + 1))), some (.int (nI (60 * l + (j + 1)))), some (.int (nI (60 * l + nxB kind L j))), none] [] h := by
        intro hbt
        rw [if_pos hbt] at key
        refine r_ki aX4_next_87 ?_
        refine r_go aX4_next_88 ?_
        refine r_is7 aX4_next_92 rfl ?_
        refine r_il aX4_next_94 rfl ?_
        refine r_nz_eq aX4_next_96 (by omega) (fun c96 => ?_) (fun c96 => ?_)
        · cases c96
        · -- to 99
          refine r_il aX4_next_99 rfl ?_
          refine r_go aX4_next_101 ?_
          refine r_is3 aX4_next_105 rfl ?_
          refine r_in4 aX4_next_106 rfl ?_
          refine r_go aX4_next_109 ?_
          exact r_f5 (r_f6 (r_f7 key))
      have fF : ¬ bett kind (gi L (j + 1)) (gi L (nxB kind L j)) → G Y ad mX4_next 91 [some (.ref (ad 91)), some (.int (nI l)), some (.int (nI kind)), some (.int (nI (nxB kind L j))), some (.int (nI (j + 1))), some (.int (nI (60 * l + (j + 1)))), some (.int (nI (60 * l + nxB kind L j))), none] [] h := by
        intro hbt
        rw [if_neg hbt] at key
        refine r_ki aX4_next_91 ?_
        refine r_is7 aX4_next_92 rfl ?_
        refine r_il aX4_next_94 rfl ?_
        refine r_nz_eq aX4_next_96 (by omega) (fun c96 => ?_) (fun c96 => ?_)
        · -- to 104
          refine r_il aX4_next_104 rfl ?_
          refine r_is3 aX4_next_105 rfl ?_
          refine r_in4 aX4_next_106 rfl ?_
          refine r_go aX4_next_109 ?_
          exact r_f5 (r_f6 (r_f7 key))
        · exact absurd rfl c96
      refine r_il aX4_next_5 rfl ?_
      refine r_al aX4_next_7 rfl ?_
      refine r_getR aX4_next_8 rfl rfl ?_
      refine r_il aX4_next_11 rfl ?_
      refine r_xI aX4_next_12 rfl (by omega) hn ?_
      refine r_n_ge aX4_next_13 (by omega) (by omega) (fun c13 => ?_) (fun c13 => ?_)
      · omega
      · -- to 16
        refine r_ki aX4_next_16 ?_
        refine r_il aX4_next_18 rfl ?_
        refine r_imulN aX4_next_19 ?_
        refine r_il aX4_next_20 rfl ?_
        refine r_iaddN aX4_next_22 ?_
        refine r_is5 aX4_next_23 rfl ?_
        refine r_ki aX4_next_25 ?_
        refine r_il aX4_next_27 rfl ?_
        refine r_imulN aX4_next_28 ?_
        refine r_il aX4_next_29 rfl ?_
        refine r_iaddN aX4_next_30 ?_
        refine r_is6 aX4_next_31 rfl ?_
        refine r_il aX4_next_33 rfl ?_
        refine r_ki aX4_next_34 ?_
        refine r_c_eq aX4_next_35 (fun c35 => absurd c35 (fun z => nI_pos (n := nxB kind L j) (by omega) (by rw [z]; decide))) (fun c35 => ?_)
        refine r_il aX4_next_38 rfl ?_
        refine r_ki aX4_next_39 ?_
        refine r_n_eq aX4_next_40 (by omega) (by omega) (fun c40 => fT (Or.inl c40)) (fun c40 => ?_)
        refine r_il aX4_next_43 rfl ?_
        refine r_nz_ne aX4_next_44 (by omega) (fun c44 => ?_) (fun c44 => ?_)
        · refine r_il aX4_next_64 rfl ?_
          refine r_ki aX4_next_65 ?_
          refine r_n_ne aX4_next_66 (by omega) (by omega) (fun c66 => by omega) (fun c66 => ?_)
          refine r_al aX4_next_69 rfl ?_
          refine r_getR aX4_next_70 rfl rfl ?_
          refine r_il aX4_next_73 rfl ?_
          refine r_xL aX4_next_75 rfl (by omega) e3 ?_
          refine r_al aX4_next_76 rfl ?_
          refine r_getR aX4_next_77 rfl rfl ?_
          refine r_il aX4_next_80 rfl ?_
          refine r_xL aX4_next_82 rfl (by omega) f3 ?_
          refine r_m_le aX4_next_83 aX4_next_84 (by omega) (by omega) (fun c83 => fF ?_) (fun c83 => fT ?_)
          · rintro (z | z | z)
            · exact c40 z
            · exact c44 z.1
            · have := z.2; omega
          · exact Or.inr (Or.inr ⟨c66, c83⟩)
        · refine r_al aX4_next_47 rfl ?_
          refine r_getR aX4_next_48 rfl rfl ?_
          refine r_il aX4_next_51 rfl ?_
          refine r_xI aX4_next_53 rfl (by omega) e2 ?_
          refine r_al aX4_next_54 rfl ?_
          refine r_getR aX4_next_55 rfl rfl ?_
          refine r_il aX4_next_58 rfl ?_
          refine r_xI aX4_next_60 rfl (by omega) f2 ?_
          refine r_n_lt aX4_next_61 (by omega) (by omega) (fun c61 => fT (Or.inr (Or.inl ⟨c44, c61⟩))) (fun c61 => ?_)
          refine r_il aX4_next_64 rfl ?_
          refine r_ki aX4_next_65 ?_
          refine r_n_ne aX4_next_66 (by omega) (by omega) (fun c66 => fF ?_) (fun c66 => by omega)
          rintro (z | z | z)
          · exact c40 z
          · have := z.2; omega
          · exact c66 z.1
  have first : G Y ad mX4_next 5 [some (.ref (ad 91)), some (.int (nI l)), some (.int (nI kind)), some (.int (-1)), some (.int (nI 0)), none, none, none] [] h := by
    by_cases hz : L.length = 0
    · have hn0 : h.1 101 l = nI 0 := by rw [hn, hz]
      refine r_il aX4_next_5 rfl ?_
      refine r_al aX4_next_7 rfl ?_
      refine r_getR aX4_next_8 rfl rfl ?_
      refine r_il aX4_next_11 rfl ?_
      refine r_xI aX4_next_12 rfl (by omega) hn0 ?_
      refine r_n_ge aX4_next_13 (by omega) (by omega) (fun c13 => ?_) (fun c13 => ?_)
      · -- to 112
        refine r_il aX4_next_112 rfl ?_
        exact r_iret hM aX4_next_113 rfl ⟨rfl, by unfold nxt; rw [if_pos hz]; rfl⟩
      · omega
    · have key := loop _ 0 rfl (by omega)
      refine r_il aX4_next_5 rfl ?_
      refine r_al aX4_next_7 rfl ?_
      refine r_getR aX4_next_8 rfl rfl ?_
      refine r_il aX4_next_11 rfl ?_
      refine r_xI aX4_next_12 rfl (by omega) hn ?_
      refine r_n_ge aX4_next_13 (by omega) (by omega) (fun c13 => ?_) (fun c13 => ?_)
      · omega
      · -- to 16
        refine r_ki aX4_next_16 ?_
        refine r_il aX4_next_18 rfl ?_
        refine r_imulN aX4_next_19 ?_
        refine r_il aX4_next_20 rfl ?_
        refine r_iaddN aX4_next_22 ?_
        refine r_is5 aX4_next_23 rfl ?_
        refine r_ki aX4_next_25 ?_
        refine r_il aX4_next_27 rfl ?_
        refine r_imulN aX4_next_28 ?_
        refine r_il aX4_next_29 rfl ?_
        refine r_iadd aX4_next_30 ?_
        refine r_is6 aX4_next_31 rfl ?_
        refine r_il aX4_next_33 rfl ?_
        refine r_ki aX4_next_34 ?_
        refine r_c_eq aX4_next_35 (fun c35 => ?_) (fun c35 => ?_)
        · -- to 87
          refine r_ki aX4_next_87 ?_
          refine r_go aX4_next_88 ?_
          refine r_is7 aX4_next_92 rfl ?_
          refine r_il aX4_next_94 rfl ?_
          refine r_nz_eq aX4_next_96 (by omega) (fun c96 => ?_) (fun c96 => ?_)
          · cases c96
          · -- to 99
            refine r_il aX4_next_99 rfl ?_
            refine r_go aX4_next_101 ?_
            refine r_is3 aX4_next_105 rfl ?_
            refine r_in4 aX4_next_106 rfl ?_
            refine r_go aX4_next_109 ?_
            exact r_f5 (r_f6 (r_f7 key))
        · exact absurd rfl c35
  refine r_ki aX4_next_0 ?_
  refine r_is3 aX4_next_1 rfl ?_
  refine r_ki aX4_next_2 ?_
  refine r_is4 aX4_next_3 rfl ?_
  exact first
theorem K_X4_share {t d m wg D : Nat} (hS : MSh h Sh) (hl : Sh.length < 40) (hm : m ≤ 2 ^ 60) (h0 : 0 < D) (h1 : D ≤ 256) (h2 : wg ≤ D) : Con ad mX4_share [.ref (ad 91), .int (nI t), .int (nI d), .long (lN m), .long (lN wg), .long (lN D)] h (qV fun h' => MSh h' (if por m wg D = 0 then Sh else Sh ++ [(t, d, por m wg D)]) ∧ SG h h') := by
  obtain ⟨hn, hI⟩ := hS
  have hmod : m % D < D := Nat.mod_lt _ h0
  have hp : m % D * wg ≤ 256 * 256 := Nat.mul_le_mul (by omega) (by omega)
  have hpl := por_le (m := m) h0 h2
  refine Con.mk vX4_share.1 vX4_share.2.2.2.2 [some (.ref (ad 91)), some (.int (nI t)), some (.int (nI d)), some (.long (lN m)), none, some (.long (lN wg)), none, some (.long (lN D)), none, none, none] rfl (Nat.le_of_ble_eq_true rfl) (fun Y hM => ?_)
  refine r_ll aX4_share_0 rfl ?_
  refine r_ll aX4_share_1 rfl ?_
  refine r_ldivN aX4_share_3 (by omega) (by omega) (by omega) ?_
  refine r_ll aX4_share_4 rfl ?_
  refine r_lmulN aX4_share_6 ?_
  refine r_ll aX4_share_7 rfl ?_
  refine r_ll aX4_share_8 rfl ?_
  refine r_lremN aX4_share_10 (by omega) (by omega) (by omega) ?_
  refine r_ll aX4_share_11 rfl ?_
  refine r_lmulN aX4_share_13 ?_
  refine r_ll aX4_share_14 rfl ?_
  refine r_ldivN aX4_share_16 (by omega) (by omega) (by omega) ?_
  refine r_laddN aX4_share_17 ?_
  refine r_tl (v := lN (por m wg D)) rfl ?_
  refine r_ls9 aX4_share_18 rfl ?_
  refine r_ll aX4_share_20 rfl ?_
  refine r_kl aX4_share_22 ?_
  refine r_m_le aX4_share_23 aX4_share_24 (by omega) (by omega) (fun c23 => ?_) (fun c23 => ?_)
  · -- to 68
    exact r_vret hM aX4_share_68 rfl ⟨by rw [if_pos (by omega)]; exact ⟨hn, hI⟩, SG.rf⟩
  · -- to 27
    refine r_al aX4_share_27 rfl ?_
    refine r_getR aX4_share_28 rfl rfl ?_
    refine r_al aX4_share_31 rfl ?_
    refine r_gI aX4_share_32 rfl rfl (Eq.trans (by simp [si_1, si_2, sl_1, sl_2, sri_1, sri_2, srl_1, srl_2]) hn) ?_
    refine r_il aX4_share_35 rfl ?_
    refine r_iast aX4_share_36 rfl (by omega) ?_
    refine r_al aX4_share_37 rfl ?_
    refine r_getR aX4_share_38 rfl rfl ?_
    refine r_al aX4_share_41 rfl ?_
    refine r_gI aX4_share_42 rfl rfl (Eq.trans (by simp [si_1, si_2, sl_1, sl_2, sri_1, sri_2, srl_1, srl_2]) hn) ?_
    refine r_il aX4_share_45 rfl ?_
    refine r_iast aX4_share_46 rfl (by omega) ?_
    refine r_al aX4_share_47 rfl ?_
    refine r_getR aX4_share_48 rfl rfl ?_
    refine r_al aX4_share_51 rfl ?_
    refine r_gI aX4_share_52 rfl rfl (Eq.trans (by simp [si_1, si_2, sl_1, sl_2, sri_1, sri_2, srl_1, srl_2]) hn) ?_
    refine r_ll aX4_share_55 rfl ?_
    refine r_last aX4_share_57 rfl (by omega) ?_
    refine r_al aX4_share_58 rfl ?_
    refine r_dup aX4_share_59 rfl ?_
    refine r_gI aX4_share_60 rfl rfl (Eq.trans (by simp [si_1, si_2, sl_1, sl_2, sri_1, sri_2, srl_1, srl_2]) hn) ?_
    refine r_ki aX4_share_63 ?_
    refine r_iaddN aX4_share_64 ?_
    refine r_putI aX4_share_65 rfl rfl rfl ?_
    refine r_vret hM aX4_share_68 rfl ?_
    rw [if_neg (by omega)]
    refine ⟨⟨?_, ?_⟩, ?_⟩
    · simp [si_1, sl_1]
    · refine hI.push (fun i hi => ?_) (fun i hi => ?_) (fun i hi => ?_) ?_ ?_ ?_
      · simp [si_1, sl_1]; omega
      · simp [si_1, sl_1]; omega
      · simp [si_2, sl_2]; omega
      · simp [si_1, sl_1]
      · simp [si_1, sl_1]
      · simp [si_2, sl_2]
    · refine ⟨(Fr.si (Or.inr ⟨by omega, by omega⟩)).tr ((Fr.si (Or.inr ⟨by omega, by omega⟩)).tr ((Fr.sl (Or.inr ⟨by omega, by omega⟩)).tr (Fr.si (Or.inl rfl)))), fun j hj => ?_⟩
      rw [si_1, if_neg (by omega), sl_1, si_o (by omega), si_o (by omega)]
theorem K_X4_alike {s d : Nat} {but : Int32} (hl : l < 5) (hW : IW L) (hn : h.1 101 l = nI L.length) (hI : Items h 102 103 104 (60 * l) L) (hj : h.1 91 8 = bI jn) (hs : s < 20) (hd : d ≤ 40) (hb : ∀ i, i < L.length → nI i = but → ¬ ((gi L i).1 = s ∧ (gi L i).2.1 = d)) : Con ad mX4_alike [.ref (ad 91), .int (nI l), .int (nI s), .int (nI d), .int but] h (qI fun x h' => h' = h ∧ x = oI ((if jn then ixOf s d L 0 else none).map (fun i => 60 * l + i))) := by
  have h60 := hW.1
  refine Con.mk vX4_alike.1 vX4_alike.2.2.2.2 [some (.ref (ad 91)), some (.int (nI l)), some (.int (nI s)), some (.int (nI d)), some (.int but), none] rfl (Nat.le_of_ble_eq_true rfl) (fun Y hM => ?_)
  cases jn with
  | false =>
    refine r_ki aX4_alike_0 ?_
    refine r_is5 aX4_alike_1 rfl ?_
    refine r_al aX4_alike_3 rfl ?_
    refine r_gI aX4_alike_4 rfl rfl hj ?_
    refine r_b_eq aX4_alike_7 (fun c7 => ?_) (fun c7 => ?_)
    · -- to 74
      refine r_ki aX4_alike_74 ?_
      exact r_iret hM aX4_alike_75 rfl ⟨rfl, rfl⟩
    · cases c7
  | true =>
    have loop : ∀ (k i : Nat), L.length - i = k → i ≤ L.length → ixOf s d L 0 = ixOf s d (L.drop i) i → G Y ad mX4_alike 3 [some (.ref (ad 91)), some (.int (nI l)), some (.int (nI s)), some (.int (nI d)), some (.int but), some (.int (nI i))] [] h := by
      intro k
      induction k with
      | zero =>
        intro i hk hi hx
        refine r_al aX4_alike_3 rfl ?_
        refine r_gI aX4_alike_4 rfl rfl hj ?_
        refine r_b_eq aX4_alike_7 (fun c7 => ?_) (fun c7 => ?_)
        · cases c7
        · -- to 10
          refine r_il aX4_alike_10 rfl ?_
          refine r_al aX4_alike_12 rfl ?_
          refine r_getR aX4_alike_13 rfl rfl ?_
          refine r_il aX4_alike_16 rfl ?_
          refine r_xI aX4_alike_17 rfl (by omega) hn ?_
          refine r_n_ge aX4_alike_18 (by omega) (by omega) (fun c18 => ?_) (fun c18 => ?_)
          · -- to 74
            refine r_ki aX4_alike_74 ?_
            exact r_iret hM aX4_alike_75 rfl ⟨rfl, by rw [if_pos rfl, hx, List.drop_of_length_le (by omega)]; rfl⟩
          · omega
      | succ k ih =>
        intro i hk hi hx
        have hlt : i < L.length := by omega
        obtain ⟨e1, e2, e3⟩ := hI.gi hlt
        obtain ⟨b1, b2, b3⟩ := hW.gi hlt
        rw [List.drop_eq_getElem_cons hlt, ← gi_eq hlt] at hx
        refine r_al aX4_alike_3 rfl ?_
        refine r_gI aX4_alike_4 rfl rfl hj ?_
        refine r_b_eq aX4_alike_7 (fun c7 => ?_) (fun c7 => ?_)
        · cases c7
        · -- to 10
          refine r_il aX4_alike_10 rfl ?_
          refine r_al aX4_alike_12 rfl ?_
          refine r_getR aX4_alike_13 rfl rfl ?_
          refine r_il aX4_alike_16 rfl ?_
          refine r_xI aX4_alike_17 rfl (by omega) hn ?_
          refine r_n_ge aX4_alike_18 (by omega) (by omega) (fun c18 => ?_) (fun c18 => ?_)
          · omega
          · -- to 21
            refine r_il aX4_alike_21 rfl ?_
            refine r_il aX4_alike_23 rfl ?_
            refine r_c_eq aX4_alike_25 (fun c25 => ?_) (fun c25 => ?_)
            · -- to 68
              refine r_in5 aX4_alike_68 rfl ?_
              refine r_go aX4_alike_71 ?_
              exact ih (i + 1) (by omega) (by omega) (by rw [hx, ixOf, if_neg (hb i hlt c25)])
            · -- to 28
              refine r_al aX4_alike_28 rfl ?_
              refine r_getR aX4_alike_29 rfl rfl ?_
              refine r_ki aX4_alike_32 ?_
              refine r_il aX4_alike_34 rfl ?_
              refine r_imulN aX4_alike_35 ?_
              refine r_il aX4_alike_36 rfl ?_
              refine r_iaddN aX4_alike_38 ?_
              refine r_xI aX4_alike_39 rfl (by omega) e1 ?_
              refine r_il aX4_alike_40 rfl ?_
              refine r_n_ne aX4_alike_41 (by omega) (by omega) (fun c41 => ?_) (fun c41 => ?_)
              · -- to 68
                refine r_in5 aX4_alike_68 rfl ?_
                refine r_go aX4_alike_71 ?_
                exact ih (i + 1) (by omega) (by omega) (by rw [hx, ixOf, if_neg (fun z => c41 z.1)])
              · -- to 44
                refine r_al aX4_alike_44 rfl ?_
                refine r_getR aX4_alike_45 rfl rfl ?_
                refine r_ki aX4_alike_48 ?_
                refine r_il aX4_alike_50 rfl ?_
                refine r_imulN aX4_alike_51 ?_
                refine r_il aX4_alike_52 rfl ?_
                refine r_iaddN aX4_alike_54 ?_
                refine r_xI aX4_alike_55 rfl (by omega) e2 ?_
                refine r_il aX4_alike_56 rfl ?_
                refine r_n_ne aX4_alike_57 (by omega) (by omega) (fun c57 => ?_) (fun c57 => ?_)
                · -- to 68
                  refine r_in5 aX4_alike_68 rfl ?_
                  refine r_go aX4_alike_71 ?_
                  exact ih (i + 1) (by omega) (by omega) (by rw [hx, ixOf, if_neg (fun z => c57 z.2)])
                · -- to 60
                  refine r_ki aX4_alike_60 ?_
                  refine r_il aX4_alike_62 rfl ?_
                  refine r_imulN aX4_alike_63 ?_
                  refine r_il aX4_alike_64 rfl ?_
                  refine r_iaddN aX4_alike_66 ?_
                  exact r_iret hM aX4_alike_67 rfl ⟨rfl, by rw [if_pos rfl, hx, ixOf, if_pos ⟨c41, c57⟩]; rfl⟩
    refine r_ki aX4_alike_0 ?_
    refine r_is5 aX4_alike_1 rfl ?_
    exact loop _ 0 rfl (by omega) rfl
theorem K_X4_newItems {i : Nat} (hl : l < 5) (hW : IW L) (hn : h.1 101 l = nI L.length) (hI : Items h 102 103 104 (60 * l) L) (hj : h.1 91 8 = bI jn) (hS : MSh h Sh) (hSm : ∀ p ∈ Sh, p.1 < 20 ∧ p.2.1 ≤ 40) (hSl : Sh.length ≤ 32) (hi : i < L.length) (hne : ∀ p ∈ Sh, p.2.1 ≠ (gi L i).2.1) : Con ad mX4_newItems [.ref (ad 91), .int (nI l), .int (nI i)] h (qI fun x h' => h' = h ∧ x = nI (cnt jn L Sh)) := by
  have h60 := hW.1
  have hs := hS.1
  refine Con.mk vX4_newItems.1 vX4_newItems.2.2.2.2 [some (.ref (ad 91)), some (.int (nI l)), some (.int (nI i)), none, none, none, none] rfl (Nat.le_of_ble_eq_true rfl) (fun Y hM => ?_)
  have bS : ∀ j, j < Sh.length → (gi Sh j).1 < 20 ∧ (gi Sh j).2.1 ≤ 40 := fun j q => hSm _ (gi_mem q)
  have inner : ∀ (k : Nat), k < Sh.length → jn = true → ∀ (m mo : Nat) (fr : Bool), (∀ b : Bool, b = (fr && !(repU Sh k k)) → G Y ad mX4_newItems 114 [some (.ref (ad 91)), some (.int (nI l)), some (.int (nI i)), some (.int (nI mo)), some (.int (nI k)), some (.int (bI b)), none] [] h) → ∀ (j : Nat), k - j = m → j ≤ k → G Y ad mX4_newItems 48 [some (.ref (ad 91)), some (.int (nI l)), some (.int (nI i)), some (.int (nI mo)), some (.int (nI k)), some (.int (bI (fr && !(repU Sh k j)))), some (.int (nI j))] [] h := by
    intro k hk hjn m mo fr out
    subst hjn
    induction m with
    | zero =>
      intro j hm hjk
      have e : j = k := by omega
      subst e
      refine r_il aX4_newItems_48 rfl ?_
      refine r_il aX4_newItems_50 rfl ?_
      refine r_n_ge aX4_newItems_52 (by omega) (by omega) (fun c52 => ?_) (fun c52 => ?_)
      · -- to 114
        exact r_f6 (out _ rfl)
      · omega
    | succ m ih =>
      intro j hm hjk
      have hjl : j < Sh.length := by omega
      obtain ⟨e1, e2, -⟩ := hS.2.gi hjl
      obtain ⟨f1, f2, -⟩ := hS.2.gi hk
      rw [n0] at e1 e2 f1 f2
      have bj := bS j hjl
      have bk := bS k hk
      have key := ih (j + 1) (by omega) (by omega)
      rw [repU, Bool.not_or, ← Bool.and_assoc] at key
      have st : ∀ b : Bool, b = (fr && !(repU Sh k j) && !decide ((gi Sh j).1 = (gi Sh k).1 ∧ (gi Sh j).2.1 = (gi Sh k).2.1)) → G Y ad mX4_newItems 106 [some (.ref (ad 91)), some (.int (nI l)), some (.int (nI i)), some (.int (nI mo)), some (.int (nI k)), some (.int (bI (fr && !(repU Sh k j)))), some (.int (nI j))] [.int (bI b)] h := by
        intro b hb
        rw [← hb] at key
        refine r_is5 aX4_newItems_106 rfl ?_
        refine r_in6 aX4_newItems_108 rfl ?_
        refine r_go aX4_newItems_111 ?_
        exact key
      have sF : (fr && !(repU Sh k j) && !decide ((gi Sh j).1 = (gi Sh k).1 ∧ (gi Sh j).2.1 = (gi Sh k).2.1)) = false → G Y ad mX4_newItems 105 [some (.ref (ad 91)), some (.int (nI l)), some (.int (nI i)), some (.int (nI mo)), some (.int (nI k)), some (.int (bI (fr && !(repU Sh k j)))), some (.int (nI j))] [] h := by
        intro hb
        refine r_ki aX4_newItems_105 ?_
        refine r_ti (v := bI false) rfl ?_
        exact st false hb.symm
      have sT : (fr && !(repU Sh k j) && !decide ((gi Sh j).1 = (gi Sh k).1 ∧ (gi Sh j).2.1 = (gi Sh k).2.1)) = true → G Y ad mX4_newItems 101 [some (.ref (ad 91)), some (.int (nI l)), some (.int (nI i)), some (.int (nI mo)), some (.int (nI k)), some (.int (bI (fr && !(repU Sh k j)))), some (.int (nI j))] [] h := by
        intro hb
        refine r_ki aX4_newItems_101 ?_
        refine r_ti (v := bI true) rfl ?_
        refine r_go aX4_newItems_102 ?_
        exact st true hb.symm
      refine r_il aX4_newItems_48 rfl ?_
      refine r_il aX4_newItems_50 rfl ?_
      refine r_n_ge aX4_newItems_52 (by omega) (by omega) (fun c52 => ?_) (fun c52 => ?_)
      · omega
      · -- to 55
        refine r_al aX4_newItems_55 rfl ?_
        refine r_gI aX4_newItems_56 rfl rfl hj ?_
        refine r_b_eq aX4_newItems_59 (fun c59 => ?_) (fun c59 => ?_)
        · cases c59
        · -- to 62
          refine r_il aX4_newItems_62 rfl ?_
          refine r_b_eq aX4_newItems_64 (fun c64 => ?_) (fun c64 => ?_)
          · -- to 105
            exact sF (by rw [c64]; rfl)
          · -- to 67
            refine r_al aX4_newItems_67 rfl ?_
            refine r_getR aX4_newItems_68 rfl rfl ?_
            refine r_il aX4_newItems_71 rfl ?_
            refine r_xI aX4_newItems_73 rfl (by omega) e1 ?_
            refine r_al aX4_newItems_74 rfl ?_
            refine r_getR aX4_newItems_75 rfl rfl ?_
            refine r_il aX4_newItems_78 rfl ?_
            refine r_xI aX4_newItems_80 rfl (by omega) f1 ?_
            refine r_n_ne aX4_newItems_81 (by omega) (by omega) (fun c81 => ?_) (fun c81 => ?_)
            · -- to 101
              exact sT (by rw [c64, decide_eq_false (fun z => c81 z.1)]; rfl)
            · -- to 84
              refine r_al aX4_newItems_84 rfl ?_
              refine r_getR aX4_newItems_85 rfl rfl ?_
              refine r_il aX4_newItems_88 rfl ?_
              refine r_xI aX4_newItems_90 rfl (by omega) e2 ?_
              refine r_al aX4_newItems_91 rfl ?_
              refine r_getR aX4_newItems_92 rfl rfl ?_
              refine r_il aX4_newItems_95 rfl ?_
              refine r_xI aX4_newItems_97 rfl (by omega) f2 ?_
              refine r_n_eq aX4_newItems_98 (by omega) (by omega) (fun c98 => ?_) (fun c98 => ?_)
              · -- to 105
                exact sF (by rw [c64, decide_eq_true ⟨c81, c98⟩]; rfl)
              · -- to 101
                exact sT (by rw [c64, decide_eq_false (fun z => c98 z.2)]; rfl)
  have outer : ∀ (m k : Nat), Sh.length - k = m → k ≤ Sh.length → G Y ad mX4_newItems 5 [some (.ref (ad 91)), some (.int (nI l)), some (.int (nI i)), some (.int (nI (if jn then cn L Sh k else k))), some (.int (nI k)), none, none] [] h := by
    intro m
    induction m with
    | zero =>
      intro k hm hk
      have e : k = Sh.length := by omega
      subst e
      refine r_il aX4_newItems_5 rfl ?_
      refine r_al aX4_newItems_7 rfl ?_
      refine r_gI aX4_newItems_8 rfl rfl hs ?_
      refine r_n_ge aX4_newItems_11 (by omega) (by omega) (fun c11 => ?_) (fun c11 => ?_)
      · -- to 133
        refine r_il aX4_newItems_133 rfl ?_
        exact r_iret hM aX4_newItems_134 rfl ⟨rfl, by unfold cnt; split <;> rfl⟩
      · omega
    | succ m ih =>
      intro k hm hk
      have hkl : k < Sh.length := by omega
      have hcl := cn_le L Sh k
      obtain ⟨f1, f2, -⟩ := hS.2.gi hkl
      rw [n0] at f1 f2
      have bk := bS k hkl
      have key := ih (k + 1) (by omega) (by omega)
      have add : ∀ b : Bool, (if jn then cn L Sh (k + 1) else k + 1) = (if jn then cn L Sh k else k) + (if b then 1 else 0) → G Y ad mX4_newItems 114 [some (.ref (ad 91)), some (.int (nI l)), some (.int (nI i)), some (.int (nI (if jn then cn L Sh k else k))), some (.int (nI k)), some (.int (bI b)), none] [] h := by
        intro b hb
        rw [hb] at key
        cases b with
        | true =>
          refine r_il aX4_newItems_114 rfl ?_
          refine r_il aX4_newItems_115 rfl ?_
          refine r_b_eq aX4_newItems_117 (fun c117 => ?_) (fun c117 => ?_)
          · cases c117
          · -- to 120
            refine r_ki aX4_newItems_120 ?_
            refine r_go aX4_newItems_121 ?_
            refine r_iaddN aX4_newItems_125 ?_
            refine r_is3 aX4_newItems_126 rfl ?_
            refine r_in4 aX4_newItems_127 rfl ?_
            refine r_go aX4_newItems_130 ?_
            exact r_f5 key
        | false =>
          refine r_il aX4_newItems_114 rfl ?_
          refine r_il aX4_newItems_115 rfl ?_
          refine r_b_eq aX4_newItems_117 (fun c117 => ?_) (fun c117 => ?_)
          · -- to 124
            refine r_ki aX4_newItems_124 ?_
            refine r_iaddN aX4_newItems_125 ?_
            refine r_is3 aX4_newItems_126 rfl ?_
            refine r_in4 aX4_newItems_127 rfl ?_
            refine r_go aX4_newItems_130 ?_
            exact r_f5 key
          · cases c117
      have fin : ∀ fr : Bool, (fr = true ↔ (if jn then ixOf (gi Sh k).1 (gi Sh k).2.1 L 0 else none) = none) → G Y ad mX4_newItems 43 [some (.ref (ad 91)), some (.int (nI l)), some (.int (nI i)), some (.int (nI (if jn then cn L Sh k else k))), some (.int (nI k)), none, none] [.int (bI fr)] h := by
        intro fr hfr
        refine r_is5 aX4_newItems_43 rfl ?_
        refine r_ki aX4_newItems_45 ?_
        refine r_is6 aX4_newItems_46 rfl ?_
        cases jn with
        | false =>
          have ht : fr = true := hfr.mpr rfl
          subst ht
          have h114 := add true rfl
          refine r_il aX4_newItems_48 rfl ?_
          refine r_il aX4_newItems_50 rfl ?_
          refine r_n_ge aX4_newItems_52 (by omega) (by omega) (fun c52 => ?_) (fun c52 => ?_)
          · -- to 114
            exact r_f6 h114
          · -- to 55
            refine r_al aX4_newItems_55 rfl ?_
            refine r_gI aX4_newItems_56 rfl rfl hj ?_
            refine r_b_eq aX4_newItems_59 (fun c59 => ?_) (fun c59 => ?_)
            · -- to 114
              exact r_f6 h114
            · cases c59
        | true =>
          have := inner k hkl rfl k _ fr (fun b hb => add b (by
            rw [if_pos rfl, if_pos rfl, cn]
            rw [if_pos rfl] at hfr
            congr 1
            by_cases z : ixOf (gi Sh k).1 (gi Sh k).2.1 L 0 = none
            · rw [hfr.mpr z, Bool.true_and] at hb
              cases hr : repU Sh k k with
              | false => rw [hr] at hb; rw [if_pos ⟨z, rfl⟩, hb]; rfl
              | true => rw [hr] at hb; rw [if_neg (fun q => by cases q.2), hb]; rfl
            · have hf : fr = false := by cases hq : fr with
                | false => rfl
                | true => exact absurd (hfr.mp hq) z
              rw [hf] at hb
              rw [if_neg (fun q => z q.1), hb]; rfl)) 0 rfl (by omega)
          rw [repU, Bool.not_false, Bool.and_true] at this
          exact this
      refine r_il aX4_newItems_5 rfl ?_
      refine r_al aX4_newItems_7 rfl ?_
      refine r_gI aX4_newItems_8 rfl rfl hs ?_
      refine r_n_ge aX4_newItems_11 (by omega) (by omega) (fun c11 => ?_) (fun c11 => ?_)
      · omega
      · -- to 14
        refine r_al aX4_newItems_14 rfl ?_
        refine r_il aX4_newItems_15 rfl ?_
        refine r_al aX4_newItems_16 rfl ?_
        refine r_getR aX4_newItems_17 rfl rfl ?_
        refine r_il aX4_newItems_20 rfl ?_
        refine r_xI aX4_newItems_22 rfl (by omega) f1 ?_
        refine r_al aX4_newItems_23 rfl ?_
        refine r_getR aX4_newItems_24 rfl rfl ?_
        refine r_il aX4_newItems_27 rfl ?_
        refine r_xI aX4_newItems_29 rfl (by omega) f2 ?_
        refine r_il aX4_newItems_30 rfl ?_
        refine r_VI4 aX4_newItems_31 vX4_alike rfl (K_X4_alike hl hW hn hI hj bk.1 bk.2 (fun x q1 q2 z => hne _ (gi_mem hkl) (by rw [← (nI_eq (by omega) (by omega)).mp q2]; exact z.2.symm))) (fun x31 h31 Q31 => ?_)
        rw [Q31.1, Q31.2]
        refine r_ki aX4_newItems_34 ?_
        refine r_c_ne aX4_newItems_35 (fun c35 => ?_) (fun c35 => ?_)
        · -- to 42
          refine r_ki aX4_newItems_42 ?_
          refine r_ti (v := bI false) rfl ?_
          refine fin false ⟨fun z => (by cases z), fun z => ?_⟩
          rw [z] at c35
          exact absurd rfl c35
        · -- to 38
          refine r_ki aX4_newItems_38 ?_
          refine r_ti (v := bI true) rfl ?_
          refine r_go aX4_newItems_39 ?_
          refine fin true ⟨fun _ => ?_, fun _ => rfl⟩
          cases hz : (if jn then ixOf (gi Sh k).1 (gi Sh k).2.1 L 0 else none) with
          | none => rfl
          | some x =>
            rw [hz] at c35
            have hx60 : x < 60 := by
              cases jn with
              | false => cases hz
              | true => have := ixOf_lt _ _ _ _ _ hz; omega
            exact absurd (show nI (60 * l + x) = -1 from c35) (fun z => nI_pos (n := 60 * l + x) (by omega) (by rw [z]; decide))
  refine r_ki aX4_newItems_0 ?_
  refine r_is3 aX4_newItems_1 rfl ?_
  refine r_ki aX4_newItems_2 ?_
  refine r_is4 aX4_newItems_3 rfl ?_
  have := outer _ 0 rfl (by omega)
  have e : (if jn then cn L Sh 0 else 0) = 0 := by split <;> rfl
  rw [e] at this
  exact this
end MODEL3

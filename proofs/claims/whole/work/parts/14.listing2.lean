def gi (L : List Itm) (i : Nat) : Itm := L.getD i (0, 0, 0)
theorem gi_eq {L : List Itm} {i : Nat} (hi : i < L.length) : gi L i = L[i] := by
  unfold gi
  rw [List.getD_eq_getElem?_getD, List.getElem?_eq_getElem hi]
  rfl
theorem Items.gi {h : Mem} {a b c o : Nat} {L : List Itm} (H : Items h a b c o L) {i : Nat} (hi : i < L.length) : h.1 a (o + i) = nI (gi L i).1 ∧ h.1 b (o + i) = nI (gi L i).2.1 ∧ h.2 c (o + i) = lN (gi L i).2.2 := by
  rw [gi_eq hi]; exact H.at hi
theorem IW.gi {L : List Itm} (H : IW L) {i : Nat} (hi : i < L.length) : (gi L i).1 < 20 ∧ (gi L i).2.1 ≤ 40 ∧ (gi L i).2.2 ≤ 2 ^ 60 := by
  rw [gi_eq hi]; exact H.at hi
/-- the next item -/
abbrev bett (kind : Nat) (p b : Itm) : Prop := kind = 2 ∨ (kind = 0 ∧ p.2.1 < b.2.1) ∨ (kind = 1 ∧ b.2.2 < p.2.2)
def nxB (kind : Nat) (L : List Itm) : Nat → Nat
  | 0 => 0
  | i + 1 => if bett kind (gi L (i + 1)) (gi L (nxB kind L i)) then i + 1 else nxB kind L i
def nxt (kind : Nat) (L : List Itm) : Option Nat := if L.length = 0 then none else some (nxB kind L (L.length - 1))
theorem nxB_le (kind : Nat) (L : List Itm) : ∀ i, nxB kind L i ≤ i
  | 0 => Nat.le_refl _
  | i + 1 => by
    have := nxB_le kind L i
    unfold nxB
    split <;> omega
theorem nxB_2 (L : List Itm) : ∀ i, nxB 2 L i = i
  | 0 => rfl
  | i + 1 => by unfold nxB; rw [if_pos (Or.inl rfl)]
theorem nxt_lt {kind : Nat} {L : List Itm} {i : Nat} (h : nxt kind L = some i) : i < L.length := by
  unfold nxt at h
  split at h
  · cases h
  · cases h
    have := nxB_le kind L (L.length - 1)
    omega
section LISTING2
variable {ad : Nat → Nat} {h : Mem} {q : Nat} {L : List Itm} {F R : Nat → Nat}
theorem K_X0_addItem {s d m : Nat} (hq : IsL q) (hl : L.length < 60) (hs : s < 20) (hL : LR h q L F R) : Con ad mX0_addItem [.ref (ad q), .int (nI s), .int (nI d), .long (lN m)] h (qV fun h' => LR h' q (L ++ [(s, d, m)]) F R ∧ h'.1 q 0 = h.1 q 0 ∧ h'.1 q 1 = h.1 q 1 ∧ Fr (inL q) h h') := by
  obtain ⟨hn, hI, hF, hR, hH⟩ := hL
  have hw : h.2 (q + 6) s = lN (R s + opAt L s) := by have := hH s hs; rwa [n0] at this
  refine Con.mk vX0_addItem.1 vX0_addItem.2.2.2.2 [some (.ref (ad q)), some (.int (nI s)), some (.int (nI d)), some (.long (lN m)), none] rfl (Nat.le_of_ble_eq_true rfl) (fun Y hM => ?_)
  refine r_al aX0_addItem_0 rfl ?_
  refine r_gI aX0_addItem_1 hq.1 rfl (Eq.trans (by simp [si_1, si_2, sl_1, sl_2, sri_1, sri_2, srl_1, srl_2]) hn) ?_
  refine r_ki aX0_addItem_4 ?_
  refine r_n_lt aX0_addItem_6 (by omega) (by omega) (fun c6 => ?_) (fun c6 => ?_)
  · -- to 10
    refine r_al aX0_addItem_10 rfl ?_
    refine r_getR aX0_addItem_11 hq.1 rfl ?_
    refine r_al aX0_addItem_14 rfl ?_
    refine r_gI aX0_addItem_15 hq.1 rfl (Eq.trans (by simp [si_1, si_2, sl_1, sl_2, sri_1, sri_2, srl_1, srl_2]) hn) ?_
    refine r_il aX0_addItem_18 rfl ?_
    refine r_iast aX0_addItem_19 hq.2.1 (by omega) ?_
    refine r_al aX0_addItem_20 rfl ?_
    refine r_getR aX0_addItem_21 hq.1 rfl ?_
    refine r_al aX0_addItem_24 rfl ?_
    refine r_gI aX0_addItem_25 hq.1 rfl (Eq.trans (by simp [si_1, si_2, sl_1, sl_2, sri_1, sri_2, srl_1, srl_2]) hn) ?_
    refine r_il aX0_addItem_28 rfl ?_
    refine r_iast aX0_addItem_29 hq.2.2.1 (by omega) ?_
    refine r_al aX0_addItem_30 rfl ?_
    refine r_getR aX0_addItem_31 hq.1 rfl ?_
    refine r_al aX0_addItem_34 rfl ?_
    refine r_gI aX0_addItem_35 hq.1 rfl (Eq.trans (by simp [si_1, si_2, sl_1, sl_2, sri_1, sri_2, srl_1, srl_2]) hn) ?_
    refine r_ll aX0_addItem_38 rfl ?_
    refine r_last aX0_addItem_39 hq.2.2.2.1 (by omega) ?_
    refine r_al aX0_addItem_40 rfl ?_
    refine r_dup aX0_addItem_41 rfl ?_
    refine r_gI aX0_addItem_42 hq.1 rfl (Eq.trans (by simp [si_1, si_2, sl_1, sl_2, sri_1, sri_2, srl_1, srl_2]) hn) ?_
    refine r_ki aX0_addItem_45 ?_
    refine r_iaddN aX0_addItem_46 ?_
    refine r_putI aX0_addItem_47 hq.1 rfl rfl ?_
    refine r_al aX0_addItem_50 rfl ?_
    refine r_getR aX0_addItem_51 hq.1 rfl ?_
    refine r_il aX0_addItem_54 rfl ?_
    refine r_dup2 aX0_addItem_55 rfl rfl ?_
    refine r_xL aX0_addItem_56 hq.2.2.2.2.2.2 (by omega) (Eq.trans (by simp [si_1, si_2, sl_1, sl_2, sri_1, sri_2, srl_1, srl_2]) hw) ?_
    refine r_ll aX0_addItem_57 rfl ?_
    refine r_laddN aX0_addItem_58 ?_
    refine r_last aX0_addItem_59 hq.2.2.2.2.2.2 (by omega) ?_
    refine r_vret hM aX0_addItem_60 rfl ?_
    refine ⟨⟨?_, ?_, ?_, ?_, ?_⟩, by simp [si_1, sl_1], by simp [si_1, sl_1], (Fr.si ⟨by omega, by omega⟩).tr ((Fr.si ⟨by omega, by omega⟩).tr ((Fr.sl ⟨by omega, by omega⟩).tr ((Fr.si ⟨by omega, by omega⟩).tr (Fr.sl ⟨by omega, by omega⟩))))⟩
    · simp [si_1, sl_1]
    · refine hI.push (fun i hi => ?_) (fun i hi => ?_) (fun i hi => ?_) ?_ ?_ ?_
      · simp [si_1, sl_1]; omega
      · simp [si_1, sl_1]; omega
      · simp [si_2, sl_2]; omega
      · simp [si_1, sl_1]
      · simp [si_1, sl_1]
      · simp [si_2, sl_2]
    · intro i hi; simpa [si_2, sl_2] using hF i hi
    · intro i hi; simpa [si_2, sl_2] using hR i hi
    · intro i hi
      dsimp only
      rw [opAt_push]
      by_cases e : i = s
      · subst e
        simp [si_2, sl_2]
        congr 1
        omega
      · have := hH i hi
        rw [n0] at this
        have e2 : ¬ s = i := fun z => e z.symm
        simp [si_2, sl_2, e, e2, this]
  · omega
theorem K_X0_takeOut {i : Nat} (hq : IsL q) (hW : IW L) (hi : i < L.length) (hL : LR h q L F R) : Con ad mX0_takeOut [.ref (ad q), .int (nI i)] h (qV fun h' => LR h' q (L.eraseIdx i) F R ∧ h'.1 q 0 = h.1 q 0 ∧ h'.1 q 1 = h.1 q 1 ∧ Fr (inL q) h h') := by
  obtain ⟨hn, hI, hF, hR, hH⟩ := hL
  have hl := hW.1
  obtain ⟨b1, b2, b3⟩ := hW.at hi
  obtain ⟨e1, e2, e3⟩ := hI.at hi
  rw [n0] at e1 e2 e3
  have hw : h.2 (q + 6) L[i].1 = lN (R L[i].1 + opAt L L[i].1) := by have := hH _ b1; rwa [n0] at this
  have hle := opAt_erase L[i].1 L i hi
  rw [if_pos rfl] at hle
  refine Con.mk vX0_takeOut.1 vX0_takeOut.2.2.2.2 [some (.ref (ad q)), some (.int (nI i)), none] rfl (Nat.le_of_ble_eq_true rfl) (fun Y hM => ?_)
  refine r_al aX0_takeOut_0 rfl ?_
  refine r_getR aX0_takeOut_1 hq.1 rfl ?_
  refine r_al aX0_takeOut_4 rfl ?_
  refine r_getR aX0_takeOut_5 hq.1 rfl ?_
  refine r_il aX0_takeOut_8 rfl ?_
  refine r_xI aX0_takeOut_9 hq.2.1 (by omega) e1 ?_
  refine r_dup2 aX0_takeOut_10 rfl rfl ?_
  refine r_xL aX0_takeOut_11 hq.2.2.2.2.2.2 (by omega) (Eq.trans (by simp [si_1, si_2, sl_1, sl_2, sri_1, sri_2, srl_1, srl_2]) hw) ?_
  refine r_al aX0_takeOut_12 rfl ?_
  refine r_getR aX0_takeOut_13 hq.1 rfl ?_
  refine r_il aX0_takeOut_16 rfl ?_
  refine r_xL aX0_takeOut_17 hq.2.2.2.1 (by omega) e3 ?_
  refine r_lsubN aX0_takeOut_18 (by omega) ?_
  refine r_last aX0_takeOut_19 hq.2.2.2.2.2.2 (by omega) ?_
  refine r_al aX0_takeOut_20 rfl ?_
  refine r_gI aX0_takeOut_21 hq.1 rfl (Eq.trans (by simp [si_1, si_2, sl_1, sl_2, sri_1, sri_2, srl_1, srl_2]) hn) ?_
  refine r_il aX0_takeOut_24 rfl ?_
  refine r_isubN aX0_takeOut_25 (by omega) ?_
  refine r_ki aX0_takeOut_26 ?_
  refine r_isubN aX0_takeOut_27 (by omega) ?_
  refine r_is2 aX0_takeOut_28 rfl ?_
  refine r_al aX0_takeOut_29 rfl ?_
  refine r_getR aX0_takeOut_30 hq.1 rfl ?_
  refine r_il aX0_takeOut_33 rfl ?_
  refine r_ki aX0_takeOut_34 ?_
  refine r_iaddN aX0_takeOut_35 ?_
  refine r_al aX0_takeOut_36 rfl ?_
  refine r_getR aX0_takeOut_37 hq.1 rfl ?_
  refine r_il aX0_takeOut_40 rfl ?_
  refine r_il aX0_takeOut_41 rfl ?_
  refine r_cpI aX0_takeOut_42 hq.2.1 hq.2.1 (by omega) (by omega) ?_
  refine r_al aX0_takeOut_45 rfl ?_
  refine r_getR aX0_takeOut_46 hq.1 rfl ?_
  refine r_il aX0_takeOut_49 rfl ?_
  refine r_ki aX0_takeOut_50 ?_
  refine r_iaddN aX0_takeOut_51 ?_
  refine r_al aX0_takeOut_52 rfl ?_
  refine r_getR aX0_takeOut_53 hq.1 rfl ?_
  refine r_il aX0_takeOut_56 rfl ?_
  refine r_il aX0_takeOut_57 rfl ?_
  refine r_cpI aX0_takeOut_58 hq.2.2.1 hq.2.2.1 (by omega) (by omega) ?_
  refine r_al aX0_takeOut_61 rfl ?_
  refine r_getR aX0_takeOut_62 hq.1 rfl ?_
  refine r_il aX0_takeOut_65 rfl ?_
  refine r_ki aX0_takeOut_66 ?_
  refine r_iaddN aX0_takeOut_67 ?_
  refine r_al aX0_takeOut_68 rfl ?_
  refine r_getR aX0_takeOut_69 hq.1 rfl ?_
  refine r_il aX0_takeOut_72 rfl ?_
  refine r_il aX0_takeOut_73 rfl ?_
  refine r_cpL aX0_takeOut_74 hq.2.2.2.1 hq.2.2.2.1 (by omega) (by omega) ?_
  refine r_al aX0_takeOut_77 rfl ?_
  refine r_dup aX0_takeOut_78 rfl ?_
  refine r_gI aX0_takeOut_79 hq.1 rfl (Eq.trans (by simp [si_1, si_2, sl_1, sl_2, sri_1, sri_2, srl_1, srl_2]) hn) ?_
  refine r_ki aX0_takeOut_82 ?_
  refine r_isubN aX0_takeOut_83 (by omega) ?_
  refine r_putI aX0_takeOut_84 hq.1 rfl rfl ?_
  refine r_vret hM aX0_takeOut_87 rfl ?_
  refine ⟨⟨?_, ?_, ?_, ?_, ?_⟩, by simp [si_1, sl_1, sri_1, srl_1], by simp [si_1, sl_1, sri_1, srl_1], (Fr.sl ⟨by omega, by omega⟩).tr ((Fr.sri ⟨by omega, by omega⟩).tr ((Fr.sri ⟨by omega, by omega⟩).tr ((Fr.srl ⟨by omega, by omega⟩).tr (Fr.si ⟨by omega, by omega⟩))))⟩
  · rw [List.length_eraseIdx, if_pos hi]
    simp [si_1]
  · refine hI.erase (fun j hj => ?_) (fun j hj => ?_) (fun j hj => ?_) hi
    · simp [si_1, sl_1, sri_1, srl_1, va_cpy]
      by_cases c : j < i
      · rw [if_pos c, if_neg (by omega)]
      · rw [if_neg c, if_pos (by omega), show i + 1 + (j - i) = j + 1 by omega]
    · simp [si_1, sl_1, sri_1, srl_1, va_cpy]
      by_cases c : j < i
      · rw [if_pos c, if_neg (by omega)]
      · rw [if_neg c, if_pos (by omega), show i + 1 + (j - i) = j + 1 by omega]
    · simp [si_2, sl_2, sri_2, srl_2, va_cpy]
      by_cases c : j < i
      · rw [if_pos c, if_neg (by omega)]
      · rw [if_neg c, if_pos (by omega), show i + 1 + (j - i) = j + 1 by omega]
  · intro j hj; simpa [si_2, sl_2, sri_2, srl_2] using hF j hj
  · intro j hj; simpa [si_2, sl_2, sri_2, srl_2] using hR j hj
  · intro j hj
    have h9 := opAt_erase j L i hi
    by_cases e : j = L[i].1
    · subst e
      rw [if_pos rfl] at h9
      simp [si_2, sl_2, sri_2, srl_2]
      congr 1
      omega
    · rw [if_neg (fun z => e z.symm)] at h9
      have := hH j hj
      rw [n0] at this
      simp [si_2, sl_2, sri_2, srl_2, e, this]
      congr 1
      omega
theorem K_X0_nextBy {kind : Nat} (hq : IsL q) (hW : IW L) (hn : h.1 q 2 = nI L.length) (hI : Items h (q + 1) (q + 2) (q + 3) 0 L) (hk : kind ≤ 2) : Con ad mX0_nextBy [.ref (ad q), .int (nI kind)] h (qI fun x h' => h' = h ∧ x = oI (nxt kind L)) := by
  have hl := hW.1
  refine Con.mk vX0_nextBy.1 vX0_nextBy.2.2.2.2 [some (.ref (ad q)), some (.int (nI kind)), none, none] rfl (Nat.le_of_ble_eq_true rfl) (fun Y hM => ?_)
  have loop : ∀ (k j : Nat), L.length - (j + 1) = k → j + 1 ≤ L.length → kind ≠ 2 → G Y ad mX0_nextBy 25 [some (.ref (ad q)), some (.int (nI kind)), some (.int (nI (nxB kind L j))), some (.int (nI (j + 1)))] [] h := by
    intro k
    induction k with
    | zero =>
      intro j hk0 hj hk2
      have e : j = L.length - 1 := by omega
      refine r_il aX0_nextBy_25 rfl ?_
      refine r_al aX0_nextBy_26 rfl ?_
      refine r_gI aX0_nextBy_27 hq.1 rfl hn ?_
      refine r_n_ge aX0_nextBy_30 (by omega) (by omega) (fun c30 => ?_) (fun c30 => ?_)
      · -- to 80
        refine r_il aX0_nextBy_80 rfl ?_
        exact r_iret hM aX0_nextBy_81 rfl ⟨rfl, by unfold nxt; rw [if_neg (by omega), ← e]; rfl⟩
      · omega
    | succ k ih =>
      intro j hk0 hj hk2
      have hb := nxB_le kind L j
      obtain ⟨e1, e2, e3⟩ := hI.gi (i := j + 1) (by omega)
      obtain ⟨f1, f2, f3⟩ := hI.gi (i := nxB kind L j) (by omega)
      obtain ⟨b1, b2, b3⟩ := hW.gi (i := j + 1) (by omega)
      obtain ⟨d1, d2, d3⟩ := hW.gi (i := nxB kind L j) (by omega)
      rw [n0] at e1 e2 e3 f1 f2 f3
      have key := ih (j + 1) (by omega) (by omega) hk2
      rw [nxB] at key
      refine r_il aX0_nextBy_25 rfl ?_
      refine r_al aX0_nextBy_26 rfl ?_
      refine r_gI aX0_nextBy_27 hq.1 rfl hn ?_
      refine r_n_ge aX0_nextBy_30 (by omega) (by omega) (fun c30 => ?_) (fun c30 => ?_)
      · omega
      · -- to 33
        refine r_il aX0_nextBy_33 rfl ?_
        refine r_ki aX0_nextBy_34 ?_
        refine r_n_ne aX0_nextBy_35 (by omega) (by omega) (fun c35 => ?_) (fun c35 => ?_)
        · -- to 57
          refine r_al aX0_nextBy_57 rfl ?_
          refine r_getR aX0_nextBy_58 hq.1 rfl ?_
          refine r_il aX0_nextBy_61 rfl ?_
          refine r_xI aX0_nextBy_62 hq.2.2.1 (by omega) e2 ?_
          refine r_al aX0_nextBy_63 rfl ?_
          refine r_getR aX0_nextBy_64 hq.1 rfl ?_
          refine r_il aX0_nextBy_67 rfl ?_
          refine r_xI aX0_nextBy_68 hq.2.2.1 (by omega) f2 ?_
          refine r_n_ge aX0_nextBy_69 (by omega) (by omega) (fun c69 => ?_) (fun c69 => ?_)
          · refine r_in3 aX0_nextBy_74 rfl ?_
            refine r_go aX0_nextBy_77 ?_
            rw [if_neg (by omega)] at key
            exact key
          · refine r_il aX0_nextBy_72 rfl ?_
            refine r_is2 aX0_nextBy_73 rfl ?_
            refine r_in3 aX0_nextBy_74 rfl ?_
            refine r_go aX0_nextBy_77 ?_
            rw [if_pos (by omega)] at key
            exact key
        · -- to 38
          refine r_al aX0_nextBy_38 rfl ?_
          refine r_getR aX0_nextBy_39 hq.1 rfl ?_
          refine r_il aX0_nextBy_42 rfl ?_
          refine r_xL aX0_nextBy_43 hq.2.2.2.1 (by omega) e3 ?_
          refine r_al aX0_nextBy_44 rfl ?_
          refine r_getR aX0_nextBy_45 hq.1 rfl ?_
          refine r_il aX0_nextBy_48 rfl ?_
          refine r_xL aX0_nextBy_49 hq.2.2.2.1 (by omega) f3 ?_
          refine r_m_le aX0_nextBy_50 aX0_nextBy_51 (by omega) (by omega) (fun c50 => ?_) (fun c50 => ?_)
          · refine r_in3 aX0_nextBy_74 rfl ?_
            refine r_go aX0_nextBy_77 ?_
            rw [if_neg (by omega)] at key
            exact key
          · refine r_go aX0_nextBy_54 ?_
            refine r_il aX0_nextBy_72 rfl ?_
            refine r_is2 aX0_nextBy_73 rfl ?_
            refine r_in3 aX0_nextBy_74 rfl ?_
            refine r_go aX0_nextBy_77 ?_
            rw [if_pos (by omega)] at key
            exact key
  refine r_al aX0_nextBy_0 rfl ?_
  refine r_gI aX0_nextBy_1 hq.1 rfl hn ?_
  refine r_z_ne aX0_nextBy_4 (fun c4 => ?_) (fun c4 => ?_)
  have hne : L.length ≠ 0 := fun z => c4 (by rw [z]; rfl)
  · -- to 9
    refine r_il aX0_nextBy_9 rfl ?_
    refine r_ki aX0_nextBy_10 ?_
    refine r_n_ne aX0_nextBy_11 (by omega) (by omega) (fun c11 => ?_) (fun c11 => ?_)
    · -- to 21
      refine r_ki aX0_nextBy_21 ?_
      refine r_is2 aX0_nextBy_22 rfl ?_
      refine r_ki aX0_nextBy_23 ?_
      refine r_is3 aX0_nextBy_24 rfl ?_
      exact loop _ 0 rfl (by omega) c11
    · -- to 14
      refine r_al aX0_nextBy_14 rfl ?_
      refine r_gI aX0_nextBy_15 hq.1 rfl hn ?_
      refine r_ki aX0_nextBy_18 ?_
      refine r_isubN aX0_nextBy_19 (by omega) ?_
      exact r_iret hM aX0_nextBy_20 rfl ⟨rfl, by unfold nxt; rw [if_neg hne, c11, nxB_2]; rfl⟩
  · -- to 7
    refine r_ki aX0_nextBy_7 ?_
    exact r_iret hM aX0_nextBy_8 rfl ⟨rfl, by unfold nxt; rw [if_pos ((nI_eq (a := L.length) (b := 0) (by omega) (by decide)).mp c4)]; rfl⟩
end LISTING2

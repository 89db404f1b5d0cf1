def CpA (h : Mem) (p q : Nat) (g : Mem) : Prop := g.1 98 q = bI true ∧ g.1 99 q = h.1 99 p ∧ g.1 100 q = h.1 100 p ∧ g.1 101 q = h.1 101 p
def CpI (h : Mem) (p q : Nat) (g : Mem) (n : Nat) : Prop := ∀ i, i < n → g.1 102 (60 * q + i) = h.1 102 (60 * p + i) ∧ g.1 103 (60 * q + i) = h.1 103 (60 * p + i) ∧ g.2 104 (60 * q + i) = h.2 104 (60 * p + i)
def CpF (h : Mem) (p q : Nat) (g : Mem) (n : Nat) : Prop := ∀ i, i < n → g.2 105 (8 * q + i) = h.2 105 (8 * p + i)
def CpR (h : Mem) (p q : Nat) (g : Mem) (n : Nat) : Prop := ∀ i, i < n → g.2 106 (20 * q + i) = h.2 106 (20 * p + i)
theorem cp_mo {h g : Mem} {p q : Nat} {l : LL} (A : CpA h p q g) (B : CpI h p q g 60) (C : CpF h p q g 8) (D : CpR h p q g 20) (H : MO h p (some l)) (hl : l.2.2.1.length ≤ 60) : MO g q (some l) := by
  obtain ⟨a1, a2, a3, a4⟩ := A
  obtain ⟨h1, h2, h3, ⟨h4, h5, h6, h7⟩⟩ := H
  refine ⟨a1, a2.trans h2, a3.trans h3, a4.trans h4, fun i x hx => ?_, fun i hi => (C i hi).trans (h6 i hi), fun i hi => (D i hi).trans (h7 i hi)⟩
  have hi := (List.getElem?_eq_some_iff.mp hx).1
  obtain ⟨b1, b2, b3⟩ := B i (by omega)
  obtain ⟨c1, c2, c3⟩ := h5 i x hx
  exact ⟨b1.trans c1, b2.trans c2, b3.trans c3⟩
section MODEL8
variable {ad : Nat → Nat} {h : Mem} {σ : Sta}
theorem K_X4_copy {p q : Nat} (hp : p < 5) (hq : q < 5) (hne : p ≠ q) : Con ad mX4_copy [.ref (ad 91), .int (nI p), .int (nI q)] h (qV fun h' => CpA h p q h' ∧ CpI h p q h' 60 ∧ CpF h p q h' 8 ∧ CpR h p q h' 20 ∧ GL q h h') := by
  refine Con.mk vX4_copy.1 vX4_copy.2.2.2.2 [some (.ref (ad 91)), some (.int (nI p)), some (.int (nI q)), none] rfl (Nat.le_of_ble_eq_true rfl) (fun Y hM => ?_)
  have p3 : ∀ (k i : Nat) (g : Mem), 20 - i = k → i ≤ 20 → CpA h p q g → CpI h p q g 60 → CpF h p q g 8 → CpR h p q g i → GL q h g → G Y ad mX4_copy 161 [some (.ref (ad 91)), some (.int (nI p)), some (.int (nI q)), some (.int (nI i))] [] g := by
    intro k
    induction k with
    | zero =>
      intro i g hk hi gA gI gF gR gG
      have e : i = 20 := by omega
      subst e
      refine r_il aX4_copy_161 rfl ?_
      refine r_ki aX4_copy_162 ?_
      refine r_n_ge aX4_copy_164 (by omega) (by omega) (fun c164 => ?_) (fun c164 => ?_)
      · -- to 195
        exact r_vret hM aX4_copy_195 rfl ⟨gA, gI, gF, gR, gG⟩
      · omega
    | succ k ih =>
      intro i g hk hi gA gI gF gR gG
      have e := (gG.2.2 p hne).2.2.2 i (by omega)
      have o1 : 20 - (i + 1) = k := by omega
      have o2 : i + 1 ≤ 20 := by omega
      refine r_il aX4_copy_161 rfl ?_
      refine r_ki aX4_copy_162 ?_
      refine r_n_ge aX4_copy_164 (by omega) (by omega) (fun c164 => ?_) (fun c164 => ?_)
      · omega
      · -- to 167
        refine r_al aX4_copy_167 rfl ?_
        refine r_getR aX4_copy_168 rfl rfl ?_
        refine r_ki aX4_copy_171 ?_
        refine r_il aX4_copy_173 rfl ?_
        refine r_imulN aX4_copy_174 ?_
        refine r_il aX4_copy_175 rfl ?_
        refine r_iaddN aX4_copy_176 ?_
        refine r_al aX4_copy_177 rfl ?_
        refine r_getR aX4_copy_178 rfl rfl ?_
        refine r_ki aX4_copy_181 ?_
        refine r_il aX4_copy_183 rfl ?_
        refine r_imulN aX4_copy_184 ?_
        refine r_il aX4_copy_185 rfl ?_
        refine r_iaddN aX4_copy_186 ?_
        refine r_xL aX4_copy_187 rfl (by omega) e ?_
        refine r_last aX4_copy_188 rfl (by omega) ?_
        refine r_in3 aX4_copy_189 rfl ?_
        refine r_go aX4_copy_192 ?_
        refine ih (i + 1) _ o1 o2 gA (fun j hj => ⟨(gI j hj).1, (gI j hj).2.1, by rw [sl_o (by omega)]; exact (gI j hj).2.2⟩) (fun j hj => by rw [sl_o (by omega)]; exact gF j hj) (fun j hj => ?_) (gG.tr (GL.sl (by omega)))
        by_cases z : j = i
        · subst z; rw [sl_row, pk_uLs]
        · rw [sl_row, pk_uLn (by omega)]; exact gR j (by omega)
  have p2 : ∀ (k i : Nat) (g : Mem), 8 - i = k → i ≤ 8 → CpA h p q g → CpI h p q g 60 → CpF h p q g i → GL q h g → G Y ad mX4_copy 125 [some (.ref (ad 91)), some (.int (nI p)), some (.int (nI q)), some (.int (nI i))] [] g := by
    intro k
    induction k with
    | zero =>
      intro i g hk hi gA gI gF gG
      have e : i = 8 := by omega
      subst e
      refine r_il aX4_copy_125 rfl ?_
      refine r_ki aX4_copy_126 ?_
      refine r_n_ge aX4_copy_128 (by omega) (by omega) (fun c128 => ?_) (fun c128 => ?_)
      · -- to 159
        refine r_ki aX4_copy_159 ?_
        refine r_is3 aX4_copy_160 rfl ?_
        exact p3 20 0 g rfl (by omega) gA gI gF (fun j hj => by omega) gG
      · omega
    | succ k ih =>
      intro i g hk hi gA gI gF gG
      have e := (gG.2.2 p hne).2.2.1 i (by omega)
      have o1 : 8 - (i + 1) = k := by omega
      have o2 : i + 1 ≤ 8 := by omega
      refine r_il aX4_copy_125 rfl ?_
      refine r_ki aX4_copy_126 ?_
      refine r_n_ge aX4_copy_128 (by omega) (by omega) (fun c128 => ?_) (fun c128 => ?_)
      · omega
      · -- to 131
        refine r_al aX4_copy_131 rfl ?_
        refine r_getR aX4_copy_132 rfl rfl ?_
        refine r_ki aX4_copy_135 ?_
        refine r_il aX4_copy_137 rfl ?_
        refine r_imulN aX4_copy_138 ?_
        refine r_il aX4_copy_139 rfl ?_
        refine r_iaddN aX4_copy_140 ?_
        refine r_al aX4_copy_141 rfl ?_
        refine r_getR aX4_copy_142 rfl rfl ?_
        refine r_ki aX4_copy_145 ?_
        refine r_il aX4_copy_147 rfl ?_
        refine r_imulN aX4_copy_148 ?_
        refine r_il aX4_copy_149 rfl ?_
        refine r_iaddN aX4_copy_150 ?_
        refine r_xL aX4_copy_151 rfl (by omega) e ?_
        refine r_last aX4_copy_152 rfl (by omega) ?_
        refine r_in3 aX4_copy_153 rfl ?_
        refine r_go aX4_copy_156 ?_
        refine ih (i + 1) _ o1 o2 gA (fun j hj => ⟨(gI j hj).1, (gI j hj).2.1, by rw [sl_o (by omega)]; exact (gI j hj).2.2⟩) (fun j hj => ?_) (gG.tr (GL.sl (by omega)))
        by_cases z : j = i
        · subst z; rw [sl_row, pk_uLs]
        · rw [sl_row, pk_uLn (by omega)]; exact gF j (by omega)
  have p1 : ∀ (k i : Nat) (g : Mem), 60 - i = k → i ≤ 60 → CpA h p q g → CpI h p q g i → GL q h g → G Y ad mX4_copy 45 [some (.ref (ad 91)), some (.int (nI p)), some (.int (nI q)), some (.int (nI i))] [] g := by
    intro k
    induction k with
    | zero =>
      intro i g hk hi gA gI gG
      have e : i = 60 := by omega
      subst e
      refine r_il aX4_copy_45 rfl ?_
      refine r_ki aX4_copy_46 ?_
      refine r_n_ge aX4_copy_48 (by omega) (by omega) (fun c48 => ?_) (fun c48 => ?_)
      · -- to 123
        refine r_ki aX4_copy_123 ?_
        refine r_is3 aX4_copy_124 rfl ?_
        exact p2 8 0 g rfl (by omega) gA gI (fun j hj => by omega) gG
      · omega
    | succ k ih =>
      intro i g hk hi gA gI gG
      obtain ⟨e1, e2, e3⟩ := (gG.2.2 p hne).2.1 i (by omega)
      have o1 : 60 - (i + 1) = k := by omega
      have o2 : i + 1 ≤ 60 := by omega
      refine r_il aX4_copy_45 rfl ?_
      refine r_ki aX4_copy_46 ?_
      refine r_n_ge aX4_copy_48 (by omega) (by omega) (fun c48 => ?_) (fun c48 => ?_)
      · omega
      · -- to 51
        refine r_al aX4_copy_51 rfl ?_
        refine r_getR aX4_copy_52 rfl rfl ?_
        refine r_ki aX4_copy_55 ?_
        refine r_il aX4_copy_57 rfl ?_
        refine r_imulN aX4_copy_58 ?_
        refine r_il aX4_copy_59 rfl ?_
        refine r_iaddN aX4_copy_60 ?_
        refine r_al aX4_copy_61 rfl ?_
        refine r_getR aX4_copy_62 rfl rfl ?_
        refine r_ki aX4_copy_65 ?_
        refine r_il aX4_copy_67 rfl ?_
        refine r_imulN aX4_copy_68 ?_
        refine r_il aX4_copy_69 rfl ?_
        refine r_iaddN aX4_copy_70 ?_
        refine r_xI aX4_copy_71 rfl (by omega) e1 ?_
        refine r_iast aX4_copy_72 rfl (by omega) ?_
        refine r_al aX4_copy_73 rfl ?_
        refine r_getR aX4_copy_74 rfl rfl ?_
        refine r_ki aX4_copy_77 ?_
        refine r_il aX4_copy_79 rfl ?_
        refine r_imulN aX4_copy_80 ?_
        refine r_il aX4_copy_81 rfl ?_
        refine r_iaddN aX4_copy_82 ?_
        refine r_al aX4_copy_83 rfl ?_
        refine r_getR aX4_copy_84 rfl rfl ?_
        refine r_ki aX4_copy_87 ?_
        refine r_il aX4_copy_89 rfl ?_
        refine r_imulN aX4_copy_90 ?_
        refine r_il aX4_copy_91 rfl ?_
        refine r_iaddN aX4_copy_92 ?_
        refine r_xI aX4_copy_93 rfl (by omega) (Eq.trans (by simp [si_1, si_2, sl_1, sl_2, sri_1, sri_2, srl_1, srl_2]) e2) ?_
        refine r_iast aX4_copy_94 rfl (by omega) ?_
        refine r_al aX4_copy_95 rfl ?_
        refine r_getR aX4_copy_96 rfl rfl ?_
        refine r_ki aX4_copy_99 ?_
        refine r_il aX4_copy_101 rfl ?_
        refine r_imulN aX4_copy_102 ?_
        refine r_il aX4_copy_103 rfl ?_
        refine r_iaddN aX4_copy_104 ?_
        refine r_al aX4_copy_105 rfl ?_
        refine r_getR aX4_copy_106 rfl rfl ?_
        refine r_ki aX4_copy_109 ?_
        refine r_il aX4_copy_111 rfl ?_
        refine r_imulN aX4_copy_112 ?_
        refine r_il aX4_copy_113 rfl ?_
        refine r_iaddN aX4_copy_114 ?_
        refine r_xL aX4_copy_115 rfl (by omega) (Eq.trans (by simp [si_1, si_2, sl_1, sl_2, sri_1, sri_2, srl_1, srl_2]) e3) ?_
        refine r_last aX4_copy_116 rfl (by omega) ?_
        refine r_in3 aX4_copy_117 rfl ?_
        refine r_go aX4_copy_120 ?_
        refine ih (i + 1) _ o1 o2 ?_ (fun j hj => ?_) (gG.tr ((GL.si (by omega)).tr ((GL.si (by omega)).tr (GL.sl (by omega)))))
        · obtain ⟨b1, b2, b3, b4⟩ := gA
          exact ⟨by rw [sl_1, si_o (by omega), si_o (by omega)]; exact b1, by rw [sl_1, si_o (by omega), si_o (by omega)]; exact b2, by rw [sl_1, si_o (by omega), si_o (by omega)]; exact b3, by rw [sl_1, si_o (by omega), si_o (by omega)]; exact b4⟩
        · rw [sl_1, si_o (b := 102) (by omega), si_row, si_row, si_o (b := 103) (by omega), sl_row]
          by_cases z : j = i
          · subst z
            rw [pk_us, pk_us, pk_uLs]
            exact ⟨rfl, rfl, rfl⟩
          · rw [pk_un (by omega), pk_un (by omega), pk_uLn (by omega)]
            exact gI j (by omega)
  refine r_al aX4_copy_0 rfl ?_
  refine r_getR aX4_copy_1 rfl rfl ?_
  refine r_il aX4_copy_4 rfl ?_
  refine r_ki aX4_copy_5 ?_
  refine r_ti (v := bI true) rfl ?_
  refine r_zast aX4_copy_6 rfl (by omega) ?_
  refine r_al aX4_copy_7 rfl ?_
  refine r_getR aX4_copy_8 rfl rfl ?_
  refine r_il aX4_copy_11 rfl ?_
  refine r_al aX4_copy_12 rfl ?_
  refine r_getR aX4_copy_13 rfl rfl ?_
  refine r_il aX4_copy_16 rfl ?_
  refine r_iald aX4_copy_17 rfl (by omega) ?_
  refine r_iast aX4_copy_18 rfl (by omega) ?_
  refine r_al aX4_copy_19 rfl ?_
  refine r_getR aX4_copy_20 rfl rfl ?_
  refine r_il aX4_copy_23 rfl ?_
  refine r_al aX4_copy_24 rfl ?_
  refine r_getR aX4_copy_25 rfl rfl ?_
  refine r_il aX4_copy_28 rfl ?_
  refine r_iald aX4_copy_29 rfl (by omega) ?_
  refine r_iast aX4_copy_30 rfl (by omega) ?_
  refine r_al aX4_copy_31 rfl ?_
  refine r_getR aX4_copy_32 rfl rfl ?_
  refine r_il aX4_copy_35 rfl ?_
  refine r_al aX4_copy_36 rfl ?_
  refine r_getR aX4_copy_37 rfl rfl ?_
  refine r_il aX4_copy_40 rfl ?_
  refine r_iald aX4_copy_41 rfl (by omega) ?_
  refine r_iast aX4_copy_42 rfl (by omega) ?_
  refine r_ki aX4_copy_43 ?_
  refine r_is3 aX4_copy_44 rfl ?_
  refine p1 60 0 _ rfl (by omega) ⟨?_, ?_, ?_, ?_⟩ (fun j hj => by omega) ((GL.si (by omega)).tr ((GL.si (by omega)).tr ((GL.si (by omega)).tr (GL.si (by omega)))))
  · simp [si_1]
  · simp [si_1]
  · simp [si_1]
  · simp [si_1]
theorem K_X4_save {x : Int32} (S : SI σ) (C : MRep h σ) : Con ad mX4_save [.ref (ad 91), .int x] h (qI fun r h' => r = (fSave σ x).1 ∧ MRep h' (fSave σ x).2 ∧ Fr (fun a => 91 ≤ a) h h') := by
  have e0 := C.2.2.2.1.is
  refine Con.mk vX4_save.1 vX4_save.2.2.2.2 [some (.ref (ad 91)), some (.int x)] rfl (Nat.le_of_ble_eq_true rfl) (fun Y hM => ?_)
  refine r_il aX4_save_0 rfl ?_
  refine r_ki aX4_save_1 ?_
  refine r_ki aX4_save_2 ?_
  refine r_SZ3 aX4_save_3 vX4_in (K_X4_in) (fun x3 h3 Q3 => ?_)
  rw [Q3.1]
  refine r_b_ne aX4_save_6 (fun c6 => ?_) (fun c6 => ?_)
  · -- to 11
    obtain ⟨k, hk, rfl, hx⟩ := inN_ex (by decide) ((in_N (n := 2) (by decide) Q3.2).symm.trans c6)
    clear Q3
    refine r_al aX4_save_11 rfl ?_
    refine r_getR aX4_save_12 rfl rfl ?_
    refine r_ki aX4_save_15 ?_
    refine r_xZ aX4_save_16 rfl (by omega) e0 ?_
    refine r_b_ne aX4_save_17 (fun c17 => ?_) (fun c17 => ?_)
    · -- to 23
      obtain ⟨l, hl⟩ := Option.isSome_iff_exists.mp c17
      have L1 := C.2.2.2.1
      rw [hl] at L1
      have h60 := (S.2.2.1 l hl).2.1
      refine r_al aX4_save_23 rfl ?_
      refine r_ki aX4_save_24 ?_
      refine r_ki aX4_save_25 ?_
      refine r_il aX4_save_26 rfl ?_
      refine r_iaddN aX4_save_27 ?_
      refine r_VV2 aX4_save_28 vX4_copy rfl (K_X4_copy (p := 0) (q := 1 + k) (by omega) (by omega) (by omega)) (fun h28 Q28 => ?_)
      obtain ⟨q1, q2, q3, q4, q5⟩ := Q28
      have e101 : h28.1 101 0 = nI l.2.2.1.length := (q5.2.2 0 (by omega)).1.2.2.2.trans L1.2.2.2.1
      refine r_al aX4_save_31 rfl ?_
      refine r_getR aX4_save_32 rfl rfl ?_
      refine r_ki aX4_save_35 ?_
      refine r_xI aX4_save_36 rfl (by omega) e101 ?_
      refine r_iret hM aX4_save_37 rfl ?_
      have E0 : fSave σ (nI k) = (nI l.2.2.1.length, (σ.1, σ.2.1, σ.2.2.1, some l, va_up σ.2.2.2.2 k (some l))) := by
        unfold fSave
        rw [hx]
        dsimp only
        rw [hl]
      rw [E0]
      refine ⟨rfl, ⟨C.1.gl q5, (q5.2.1 7 (by omega)).trans C.2.1, (q5.2.1 8 (by omega)).trans C.2.2.1, L1.gl q5 (by omega) (fun z e => by cases e; exact h60), fun j hj => ?_, C.2.2.2.2.2.gl q5⟩, q5.fr⟩
      show MO h28 (1 + j) (va_up σ.2.2.2.2 k (some l) j)
      by_cases e : j = k
      · subst e
        rw [mu_self]
        exact cp_mo q1 q2 q3 q4 L1 h60
      · rw [mu_ne e]
        exact (C.2.2.2.2.1 j hj).gl q5 (by omega) (fun z ez => (S.2.2.2 j z ez).2.1)
    · -- to 20
      refine r_ki aX4_save_20 ?_
      exact r_iret hM aX4_save_22 rfl (by unfold fSave; rw [hx]; dsimp only; rw [isN c17]; exact ⟨rfl, C, Fr.rf⟩)
  · -- to 9
    refine r_ki aX4_save_9 ?_
    exact r_iret hM aX4_save_10 rfl (by unfold fSave; rw [inN_no ((in_N (n := 2) (by decide) Q3.2).symm.trans c6)]; exact ⟨rfl, C, Fr.rf⟩)
theorem K_X4_back {x : Int32} (S : SI σ) (C : MRep h σ) : Con ad mX4_back [.ref (ad 91), .int x] h (qI fun r h' => r = (fBack σ x).1 ∧ MRep h' (fBack σ x).2 ∧ Fr (fun a => 91 ≤ a) h h') := by
  refine Con.mk vX4_back.1 vX4_back.2.2.2.2 [some (.ref (ad 91)), some (.int x)] rfl (Nat.le_of_ble_eq_true rfl) (fun Y hM => ?_)
  refine r_il aX4_back_0 rfl ?_
  refine r_ki aX4_back_1 ?_
  refine r_ki aX4_back_2 ?_
  refine r_SZ3 aX4_back_3 vX4_in (K_X4_in) (fun x3 h3 Q3 => ?_)
  rw [Q3.1]
  refine r_b_ne aX4_back_6 (fun c6 => ?_) (fun c6 => ?_)
  · -- to 11
    obtain ⟨k, hk, rfl, hx⟩ := inN_ex (by decide) ((in_N (n := 2) (by decide) Q3.2).symm.trans c6)
    clear Q3
    have L0 := C.2.2.2.2.1 k hk
    have e0 := L0.is
    refine r_al aX4_back_11 rfl ?_
    refine r_getR aX4_back_12 rfl rfl ?_
    refine r_ki aX4_back_15 ?_
    refine r_il aX4_back_16 rfl ?_
    refine r_iaddN aX4_back_17 ?_
    refine r_xZ aX4_back_18 rfl (by omega) e0 ?_
    refine r_b_ne aX4_back_19 (fun c19 => ?_) (fun c19 => ?_)
    · -- to 25
      obtain ⟨l, hl⟩ := Option.isSome_iff_exists.mp c19
      rw [hl] at L0
      have h60 := (S.2.2.2 k l hl).2.1
      refine r_al aX4_back_25 rfl ?_
      refine r_ki aX4_back_26 ?_
      refine r_il aX4_back_27 rfl ?_
      refine r_iaddN aX4_back_28 ?_
      refine r_ki aX4_back_29 ?_
      refine r_VV2 aX4_back_30 vX4_copy rfl (K_X4_copy (p := 1 + k) (q := 0) (by omega) (by omega) (by omega)) (fun h30 Q30 => ?_)
      obtain ⟨q1, q2, q3, q4, q5⟩ := Q30
      have e101 : h30.1 101 0 = nI l.2.2.1.length := q1.2.2.2.trans L0.2.2.2.1
      refine r_al aX4_back_33 rfl ?_
      refine r_getR aX4_back_34 rfl rfl ?_
      refine r_ki aX4_back_37 ?_
      refine r_xI aX4_back_38 rfl (by omega) e101 ?_
      refine r_iret hM aX4_back_39 rfl ?_
      have E0 : fBack σ (nI k) = (nI l.2.2.1.length, setNow σ (some l)) := by
        unfold fBack
        rw [hx]
        dsimp only
        rw [hl]
      rw [E0]
      exact ⟨rfl, C.now S q5 (cp_mo q1 q2 q3 q4 L0 h60), q5.fr⟩
    · -- to 22
      refine r_ki aX4_back_22 ?_
      exact r_iret hM aX4_back_24 rfl (by unfold fBack; rw [hx]; dsimp only; rw [isN c19]; exact ⟨rfl, C, Fr.rf⟩)
  · -- to 9
    refine r_ki aX4_back_9 ?_
    exact r_iret hM aX4_back_10 rfl (by unfold fBack; rw [inN_no ((in_N (n := 2) (by decide) Q3.2).symm.trans c6)]; exact ⟨rfl, C, Fr.rf⟩)
theorem K_X4_best {x y : Int32} (S : SI σ) (C : MRep h σ) : Con ad mX4_best [.ref (ad 91), .int x, .int y] h (qI fun r h' => r = fBest σ x y ∧ MRep h' σ ∧ Fr (fun a => 91 ≤ a) h h') := by
  have e0 := C.2.2.2.1.is
  refine Con.mk vX4_best.1 vX4_best.2.2.2.2 [some (.ref (ad 91)), some (.int x), some (.int y), none, none, none, none, none, none, none] rfl (Nat.le_of_ble_eq_true rfl) (fun Y hM => ?_)
  refine r_il aX4_best_0 rfl ?_
  refine r_SZ1 aX4_best_1 vX4_isSet (K_X4_isSet) (fun x1 h1 Q1 => ?_)
  rw [Q1.1]
  refine r_b_eq aX4_best_4 (fun c4 => ?_) (fun c4 => ?_)
  · -- to 18
    refine r_ki aX4_best_18 ?_
    exact r_iret hM aX4_best_19 rfl ⟨(fBest_b (Or.inl (inN_no (Q1.2.symm.trans c4)))).symm, C, Fr.rf⟩
  · -- to 7
    refine r_il aX4_best_7 rfl ?_
    refine r_ki aX4_best_8 ?_
    refine r_ki aX4_best_9 ?_
    refine r_SZ3 aX4_best_12 vX4_in (K_X4_in) (fun x12 h12 Q12 => ?_)
    rw [Q12.1]
    refine r_b_ne aX4_best_15 (fun c15 => ?_) (fun c15 => ?_)
    · -- to 20
      obtain ⟨a, -, -, ha⟩ := inN_ex (by decide) (Q1.2.symm.trans c4)
      obtain ⟨n, hn, rfl, hn2⟩ := inN_ex (by decide) ((in_N (n := 200) (by decide) Q12.2).symm.trans c15)
      clear Q12
      refine r_al aX4_best_20 rfl ?_
      refine r_getR aX4_best_21 rfl rfl ?_
      refine r_ki aX4_best_24 ?_
      refine r_xZ aX4_best_25 rfl (by omega) e0 ?_
      refine r_b_ne aX4_best_26 (fun c26 => ?_) (fun c26 => ?_)
      · -- to 32
        obtain ⟨l, hl⟩ := Option.isSome_iff_exists.mp c26
        have E0 : fBest σ x (nI n) = if triW σ l.1 x n 1 < triW σ l.1 x n 0 then (if triW σ l.1 x n 2 < triW σ l.1 x n 1 then nI 2 else nI 1) else (if triW σ l.1 x n 2 < triW σ l.1 x n 0 then nI 2 else nI 0) := by
          unfold fBest
          rw [ha, hn2]
          dsimp only
          rw [hl]
        rw [E0] at hM
        clear E0 ha hn2 Q1
        have hlt := (S.2.2.1 l hl).1
        have h20 := S.ww.n
        have fin : ∀ (g : Mem) (bk : Int32) (bw : Int64), Fr (fun a => 91 ≤ a) h g → MRep g σ → bk = (if triW σ l.1 x n 1 < triW σ l.1 x n 0 then (if triW σ l.1 x n 2 < triW σ l.1 x n 1 then nI 2 else nI 1) else (if triW σ l.1 x n 2 < triW σ l.1 x n 0 then nI 2 else nI 0)) → G Y ad mX4_best 40 [some (.ref (ad 91)), some (.int x), some (.int (nI n)), some (.int bk), some (.long bw), none, some (.int (nI 3)), none, none, none] [] g := by
          intro g bk bw hF Cg hE
          refine r_il aX4_best_40 rfl ?_
          refine r_ki aX4_best_42 ?_
          refine r_n_ge aX4_best_43 (by decide) (by decide) (fun c43 => ?_) (fun c43 => by omega)
          refine r_il aX4_best_123 rfl ?_
          exact r_iret hM aX4_best_124 rfl ⟨hE, Cg, hF⟩
        have step : ∀ (g : Mem) (kd : Nat) (bk nb : Int32) (bw nw : Int64), kd ≤ 2 → Fr (fun a => 91 ≤ a) h g → MRep g σ → ((bk = -1 ∨ triW σ l.1 x n kd < bw) → nb = nI kd ∧ nw = triW σ l.1 x n kd) → ((bk ≠ -1 ∧ ¬ triW σ l.1 x n kd < bw) → nb = bk ∧ nw = bw) → (∀ g', Fr (fun a => 91 ≤ a) h g' → MRep g' σ → G Y ad mX4_best 40 [some (.ref (ad 91)), some (.int x), some (.int (nI n)), some (.int nb), some (.long nw), none, some (.int (nI (kd + 1))), none, none, none] [] g') → G Y ad mX4_best 40 [some (.ref (ad 91)), some (.int x), some (.int (nI n)), some (.int bk), some (.long bw), none, some (.int (nI kd)), none, none, none] [] g := by
          intro g kd bk nb bw nw hkd hF Cg hA hB out
          have L1 := Cg.2.2.2.1
          rw [hl] at L1
          have tail : ∀ (g' : Mem) (m : Lst) (i : Nat), (goN σ.1 σ.2.2.1 kd n (begL l.1)).2 = m → LI σ.1 m → Fr (fun a => 91 ≤ a) h g' → MRep g' σ → ML g' 4 m.1 m.2.1 m.2.2 → G Y ad mX4_best 82 [some (.ref (ad 91)), some (.int x), some (.int (nI n)), some (.int bk), some (.long bw), none, some (.int (nI kd)), some (.int (nI i)), none, none] [] g' := by
            intro g' m i hE hIm hF' Cg' hm
            have hIW := (hIm.ix S.ww).iw
            refine r_al aX4_best_82 rfl ?_
            refine r_ki aX4_best_83 ?_
            refine r_il aX4_best_84 rfl ?_
            refine r_VL2 aX4_best_85 vX4_high rfl (K_X4_high (l := 4) S.ww Cg'.1 Cg'.2.2.2.2.2 hm (by omega) hIW) (fun x85 h85 Q85 => ?_)
            obtain ⟨q1, q2, q3⟩ := Q85
            rw [q1]
            refine r_al aX4_best_88 rfl ?_
            refine r_ki aX4_best_89 ?_
            refine r_il aX4_best_90 rfl ?_
            refine r_VL2 aX4_best_91 vX4_low rfl (K_X4_low (l := 4) S.ww (Cg'.1.lk q3) q2 (hm.lk q3) (by omega) hIW) (fun x91 h91 Q91 => ?_)
            obtain ⟨t1, t2, t3⟩ := Q91
            rw [t1]
            have C2 := (Cg'.lk q3 q2).lk t3 t2
            have F2 := hF'.tr (q3.fr.tr t3.fr)
            refine r_lsub aX4_best_94 ?_
            have hw : lN (hi σ.1 m x) - lN (lo σ.1 m x) = triW σ l.1 x n kd := by unfold triW; rw [hE]; rfl
            rw [hw]
            refine r_ls8 aX4_best_95 rfl ?_
            refine r_il aX4_best_97 rfl ?_
            refine r_ki aX4_best_98 ?_
            have yes : nb = nI kd ∧ nw = triW σ l.1 x n kd → G Y ad mX4_best 110 [some (.ref (ad 91)), some (.int x), some (.int (nI n)), some (.int bk), some (.long bw), none, some (.int (nI kd)), some (.int (nI i)), some (.long (triW σ l.1 x n kd)), none] [] h91 := by
              rintro ⟨e1, e2⟩
              have := out h91 F2 C2
              rw [e1, e2] at this
              refine r_il aX4_best_110 rfl ?_
              refine r_is3 aX4_best_112 rfl ?_
              refine r_ll aX4_best_113 rfl ?_
              refine r_ls4 aX4_best_115 rfl ?_
              refine r_in6 aX4_best_117 rfl ?_
              refine r_go aX4_best_120 ?_
              exact r_f7 (r_f8 this)
            refine r_c_eq aX4_best_99 (fun c99 => ?_) (fun c99 => ?_)
            · exact yes (hA (Or.inl c99))
            · refine r_ll aX4_best_102 rfl ?_
              refine r_ll aX4_best_104 rfl ?_
              refine r_l_ge aX4_best_106 aX4_best_107 (fun c106 => ?_) (fun c106 => ?_)
              · have hn : ¬ triW σ l.1 x n kd < bw := fun z => by rw [Int64.lt_iff_toInt_lt] at z; rw [Int64.le_iff_toInt_le] at c106; omega
                obtain ⟨e1, e2⟩ := hB ⟨c99, hn⟩
                have := out h91 F2 C2
                rw [e1, e2] at this
                refine r_in6 aX4_best_117 rfl ?_
                refine r_go aX4_best_120 ?_
                exact r_f7 (r_f8 this)
              · have hn : triW σ l.1 x n kd < bw := by rw [Int64.lt_iff_toInt_lt]; rw [Int64.le_iff_toInt_le] at c106; omega
                exact yes (hA (Or.inr hn))
          have loop : ∀ (k i : Nat) (g' : Mem) (m : Lst), n - i = k → i ≤ n → (goN σ.1 σ.2.2.1 kd n (begL l.1)).2 = (goN σ.1 σ.2.2.1 kd k m).2 → LI σ.1 m → Fr (fun a => 91 ≤ a) h g' → MRep g' σ → ML g' 4 m.1 m.2.1 m.2.2 → g'.1 100 4 = nI i → G Y ad mX4_best 60 [some (.ref (ad 91)), some (.int x), some (.int (nI n)), some (.int bk), some (.long bw), none, some (.int (nI kd)), some (.int (nI i)), none, none] [] g' := by
            intro k
            induction k with
            | zero =>
              intro i g' m hk hi hE hIm hF' Cg' hm h100
              refine r_il aX4_best_60 rfl ?_
              refine r_il aX4_best_62 rfl ?_
              refine r_n_ge aX4_best_63 (by omega) (by omega) (fun c63 => ?_) (fun c63 => by omega)
              exact tail g' m i hE hIm hF' Cg' hm
            | succ k ih =>
              intro i g' m hk hi hE hIm hF' Cg' hm h100
              have o1 : n - (i + 1) = k := by omega
              have o2 : i + 1 ≤ n := by omega
              rw [goN] at hE
              refine r_il aX4_best_60 rfl ?_
              refine r_il aX4_best_62 rfl ?_
              refine r_n_ge aX4_best_63 (by omega) (by omega) (fun c63 => by omega) (fun c63 => ?_)
              refine r_al aX4_best_66 rfl ?_
              refine r_ki aX4_best_67 ?_
              refine r_il aX4_best_68 rfl ?_
              refine r_VZ2 aX4_best_70 vX4_goOn rfl (K_X4_goOn (l := 4) (jn := σ.2.2.1) (by omega) S.ww Cg'.1 hm hIm Cg'.2.2.1 hkd h100) (fun x70 h70 Q70 => ?_)
              obtain ⟨u1, u2, u3, u4, u5, u6⟩ := Q70
              have Cn := Cg'.tri S u6
              have Fn := hF'.tr u6.fr
              cases hg : goS σ.1 σ.2.2.1 kd m with
              | none =>
                rw [hg] at u1 u2 hE
                refine r_b_eq aX4_best_73 (fun c73 => ?_) (fun c73 => by rw [u1] at c73; cases c73)
                exact tail h70 m i hE hIm Fn Cn u2
              | some m' =>
                rw [hg] at u1 u2 u5 hE
                refine r_b_eq aX4_best_73 (fun c73 => by rw [u1] at c73; cases c73) (fun c73 => ?_)
                refine r_in7 aX4_best_76 rfl ?_
                refine r_go aX4_best_79 ?_
                exact ih (i + 1) h70 m' o1 o2 hE (goS_li S.ww hIm hg) Fn Cn u2 u5
          refine r_il aX4_best_40 rfl ?_
          refine r_ki aX4_best_42 ?_
          refine r_n_ge aX4_best_43 (by omega) (by decide) (fun c43 => by omega) (fun c43 => ?_)
          refine r_al aX4_best_46 rfl ?_
          refine r_ki aX4_best_47 ?_
          refine r_al aX4_best_48 rfl ?_
          refine r_getR aX4_best_49 rfl rfl ?_
          refine r_ki aX4_best_52 ?_
          refine r_xI aX4_best_53 rfl (by omega) L1.2.1 ?_
          refine r_VV2 aX4_best_54 vX4_open rfl (K_X4_open (l := 4) (by omega) (by omega)) (fun h54 Q54 => ?_)
          obtain ⟨q1, q2, q3, q4, q5⟩ := Q54
          refine r_ki aX4_best_57 ?_
          refine r_is7 aX4_best_58 rfl ?_
          exact loop n 0 h54 (begL l.1) rfl (by omega) rfl (begL_li hlt) (hF.tr q5.fr) (Cg.tri S q5) q1 q4
        have n1 : ∀ k, k < 3 → nI k ≠ -1 := fun k hk z => nI_pos (n := k) (by omega) (by rw [z]; decide)
        refine r_ki aX4_best_32 ?_
        refine r_is3 aX4_best_33 rfl ?_
        refine r_kl aX4_best_34 ?_
        refine r_ls4 aX4_best_35 rfl ?_
        refine r_ki aX4_best_37 ?_
        refine r_is6 aX4_best_38 rfl ?_
        refine step h 0 _ (nI 0) _ (triW σ l.1 x n 0) (by omega) Fr.rf C (fun _ => ⟨rfl, rfl⟩) (fun z => absurd rfl z.1) (fun g1 F1 C1 => ?_)
        refine step g1 1 _ (if triW σ l.1 x n 1 < triW σ l.1 x n 0 then nI 1 else nI 0) _ (if triW σ l.1 x n 1 < triW σ l.1 x n 0 then triW σ l.1 x n 1 else triW σ l.1 x n 0) (by omega) F1 C1 (fun z => ?_) (fun z => ?_) (fun g2 F2 C2 => ?_)
        · have z := z.resolve_left (n1 0 (by omega))
          rw [if_pos z, if_pos z]; exact ⟨rfl, rfl⟩
        · rw [if_neg z.2, if_neg z.2]; exact ⟨rfl, rfl⟩
        by_cases z1 : triW σ l.1 x n 1 < triW σ l.1 x n 0
        · rw [if_pos z1, if_pos z1]
          rw [if_pos z1] at fin
          refine step g2 2 _ (if triW σ l.1 x n 2 < triW σ l.1 x n 1 then nI 2 else nI 1) _ (if triW σ l.1 x n 2 < triW σ l.1 x n 1 then triW σ l.1 x n 2 else triW σ l.1 x n 1) (by omega) F2 C2 (fun z => ?_) (fun z => ?_) (fun g3 F3 C3 => fin g3 _ _ F3 C3 rfl)
          · have z := z.resolve_left (n1 1 (by omega))
            rw [if_pos z, if_pos z]; exact ⟨rfl, rfl⟩
          · rw [if_neg z.2, if_neg z.2]; exact ⟨rfl, rfl⟩
        · rw [if_neg z1, if_neg z1]
          rw [if_neg z1] at fin
          refine step g2 2 _ (if triW σ l.1 x n 2 < triW σ l.1 x n 0 then nI 2 else nI 0) _ (if triW σ l.1 x n 2 < triW σ l.1 x n 0 then triW σ l.1 x n 2 else triW σ l.1 x n 0) (by omega) F2 C2 (fun z => ?_) (fun z => ?_) (fun g3 F3 C3 => fin g3 _ _ F3 C3 rfl)
          · have z := z.resolve_left (n1 0 (by omega))
            rw [if_pos z, if_pos z]; exact ⟨rfl, rfl⟩
          · rw [if_neg z.2, if_neg z.2]; exact ⟨rfl, rfl⟩
      · -- to 29
        refine r_ki aX4_best_29 ?_
        exact r_iret hM aX4_best_31 rfl ⟨by unfold fBest; rw [ha, hn2]; dsimp only; rw [isN c26], C, Fr.rf⟩
    · -- to 18
      refine r_ki aX4_best_18 ?_
      exact r_iret hM aX4_best_19 rfl ⟨(fBest_b (Or.inr (inN_no ((in_N (n := 200) (by decide) Q12.2).symm.trans c15)))).symm, C, Fr.rf⟩
end MODEL8

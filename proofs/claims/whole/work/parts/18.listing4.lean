section LISTING4
variable {ad : Nat → Nat} {h : Mem} {q p : Nat} {L : List Itm} {F R : Nat → Nat}
theorem K_J7_fill_d0a16 {a n : Nat} {f : Nat → Option Nat} {x : Int64} (ha : shTab[a]? = some (.inl (1, n, f))) : Con ad mJ7_fill_d0a16 [.ref (ad a), .long x] h (qV fun h' => (∀ i, i < n → h'.2 a i = x) ∧ Fr (fun b => b = a) h h' ∧ h'.1 = h.1) := by
  have hn := shLen ha
  refine Con.mk vJ7_fill_d0a16.1 vJ7_fill_d0a16.2.2.2 [some (.ref (ad a)), some (.long x), none, none, none] rfl (Nat.le_of_ble_eq_true rfl) (fun Y hM => ?_)
  have loop : ∀ (k i : Nat) (g : Mem), n - i = k → i ≤ n → (∀ j, j < i → g.2 a j = x) → Fr (fun b => b = a) h g → g.1 = h.1 → G Y ad mJ7_fill_d0a16 6 [some (.ref (ad a)), some (.long x), none, some (.int (nI i)), some (.int (nI n))] [] g := by
    intro k
    induction k with
    | zero =>
      intro i g hk hi hx hF h1
      refine r_il aJ7_fill_d0a16_6 rfl ?_
      refine r_il aJ7_fill_d0a16_7 rfl ?_
      refine r_n_ge aJ7_fill_d0a16_9 (by omega) (by omega) (fun c9 => ?_) (fun c9 => ?_)
      · -- to 22
        exact r_vret hM aJ7_fill_d0a16_22 rfl ⟨fun j hj => hx j (by omega), hF, h1⟩
      · omega
    | succ k ih =>
      intro i g hk hi hx hF h1
      refine r_il aJ7_fill_d0a16_6 rfl ?_
      refine r_il aJ7_fill_d0a16_7 rfl ?_
      refine r_n_ge aJ7_fill_d0a16_9 (by omega) (by omega) (fun c9 => ?_) (fun c9 => ?_)
      · omega
      · -- to 12
        refine r_al aJ7_fill_d0a16_12 rfl ?_
        refine r_il aJ7_fill_d0a16_13 rfl ?_
        refine r_ll aJ7_fill_d0a16_14 rfl ?_
        refine r_last aJ7_fill_d0a16_15 ha (by omega) ?_
        refine r_in3 aJ7_fill_d0a16_16 rfl ?_
        refine r_go aJ7_fill_d0a16_19 ?_
        refine ih (i + 1) _ (by omega) (by omega) (fun j hj => ?_) (hF.tr (Fr.sl (P := fun b => b = a) rfl)) h1
        rw [sl_2]
        by_cases e : j = i
        · simp [e]
        · simp [e]; exact hx j (by omega)
  refine r_ki aJ7_fill_d0a16_0 ?_
  refine r_is3 aJ7_fill_d0a16_1 rfl ?_
  refine r_al aJ7_fill_d0a16_2 rfl ?_
  refine r_alenJ aJ7_fill_d0a16_3 ha ?_
  refine r_is4 aJ7_fill_d0a16_4 rfl ?_
  exact loop _ 0 h rfl (by omega) (fun j hj => by omega) Fr.rf rfl
theorem K_J7_fill_53178 {a n : Nat} {f : Nat → Option Nat} {x : Int32} (ha : shTab[a]? = some (.inl (0, n, f))) : Con ad mJ7_fill_53178 [.ref (ad a), .int x] h (qV fun h' => (∀ i, i < n → h'.1 a i = x) ∧ Fr (fun b => b = a) h h' ∧ h'.2 = h.2) := by
  have hn := shLen ha
  refine Con.mk vJ7_fill_53178.1 vJ7_fill_53178.2.2.2 [some (.ref (ad a)), some (.int x), none, none] rfl (Nat.le_of_ble_eq_true rfl) (fun Y hM => ?_)
  have loop : ∀ (k i : Nat) (g : Mem), n - i = k → i ≤ n → (∀ j, j < i → g.1 a j = x) → Fr (fun b => b = a) h g → g.2 = h.2 → G Y ad mJ7_fill_53178 5 [some (.ref (ad a)), some (.int x), some (.int (nI i)), some (.int (nI n))] [] g := by
    intro k
    induction k with
    | zero =>
      intro i g hk hi hx hF h1
      refine r_il aJ7_fill_53178_5 rfl ?_
      refine r_il aJ7_fill_53178_6 rfl ?_
      refine r_n_ge aJ7_fill_53178_7 (by omega) (by omega) (fun c7 => ?_) (fun c7 => ?_)
      · -- to 20
        exact r_vret hM aJ7_fill_53178_20 rfl ⟨fun j hj => hx j (by omega), hF, h1⟩
      · omega
    | succ k ih =>
      intro i g hk hi hx hF h1
      refine r_il aJ7_fill_53178_5 rfl ?_
      refine r_il aJ7_fill_53178_6 rfl ?_
      refine r_n_ge aJ7_fill_53178_7 (by omega) (by omega) (fun c7 => ?_) (fun c7 => ?_)
      · omega
      · -- to 10
        refine r_al aJ7_fill_53178_10 rfl ?_
        refine r_il aJ7_fill_53178_11 rfl ?_
        refine r_il aJ7_fill_53178_12 rfl ?_
        refine r_iast aJ7_fill_53178_13 ha (by omega) ?_
        refine r_in2 aJ7_fill_53178_14 rfl ?_
        refine r_go aJ7_fill_53178_17 ?_
        refine ih (i + 1) _ (by omega) (by omega) (fun j hj => ?_) (hF.tr (Fr.si (P := fun b => b = a) rfl)) h1
        rw [si_1]
        by_cases e : j = i
        · simp [e]
        · simp [e]; exact hx j (by omega)
  refine r_ki aJ7_fill_53178_0 ?_
  refine r_is2 aJ7_fill_53178_1 rfl ?_
  refine r_al aJ7_fill_53178_2 rfl ?_
  refine r_alenI aJ7_fill_53178_3 ha ?_
  refine r_is3 aJ7_fill_53178_4 rfl ?_
  exact loop _ 0 h rfl (by omega) (fun j hj => by omega) Fr.rf rfl
theorem K_X0_beginAt {s : Nat} (hq : IsL q) (hs : s < 20) : Con ad mX0_beginAt [.ref (ad q), .int (nI s)] h (qV fun h' => LR h' q [(s, 0, 1152921504606846976)] (fun _ => 0) (fun _ => 0) ∧ h'.1 q 0 = nI s ∧ h'.1 q 1 = nI 0 ∧ Fr (inL q) h h') := by
  refine Con.mk vX0_beginAt.1 vX0_beginAt.2.2.2.2 [some (.ref (ad q)), some (.int (nI s))] rfl (Nat.le_of_ble_eq_true rfl) (fun Y hM => ?_)
  refine r_al aX0_beginAt_0 rfl ?_
  refine r_il aX0_beginAt_1 rfl ?_
  refine r_putI aX0_beginAt_2 hq.1 rfl rfl ?_
  refine r_al aX0_beginAt_5 rfl ?_
  refine r_ki aX0_beginAt_6 ?_
  refine r_putI aX0_beginAt_7 hq.1 rfl rfl ?_
  refine r_al aX0_beginAt_10 rfl ?_
  refine r_ki aX0_beginAt_11 ?_
  refine r_putI aX0_beginAt_12 hq.1 rfl rfl ?_
  refine r_al aX0_beginAt_15 rfl ?_
  refine r_getR aX0_beginAt_16 hq.1 rfl ?_
  refine r_kl aX0_beginAt_19 ?_
  refine r_SV2 aX0_beginAt_20 vJ7_fill_d0a16 (K_J7_fill_d0a16 hq.2.2.2.2.1) (fun h20 Q20 => ?_)
  refine r_al aX0_beginAt_23 rfl ?_
  refine r_getR aX0_beginAt_24 hq.1 rfl ?_
  refine r_kl aX0_beginAt_27 ?_
  refine r_SV2 aX0_beginAt_28 vJ7_fill_d0a16 (K_J7_fill_d0a16 hq.2.2.2.2.2.1) (fun h28 Q28 => ?_)
  refine r_al aX0_beginAt_31 rfl ?_
  refine r_getR aX0_beginAt_32 hq.1 rfl ?_
  refine r_kl aX0_beginAt_35 ?_
  refine r_SV2 aX0_beginAt_36 vJ7_fill_d0a16 (K_J7_fill_d0a16 hq.2.2.2.2.2.2) (fun h36 Q36 => ?_)
  obtain ⟨a1, a2, a3⟩ := Q20
  obtain ⟨b1, b2, b3⟩ := Q28
  obtain ⟨d1, d2, d3⟩ := Q36
  have e0 : h36.1 = (si (si (si h q 0 (nI s)) q 1 (nI 0)) q 2 (nI 0)).1 := d3.trans (b3.trans a3)
  have f4 : ∀ i, i < 8 → h36.2 (q + 4) i = lN 0 := fun i hi => by rw [(d2 _ (by omega)).2, (b2 _ (by omega)).2]; exact a1 i hi
  have f5 : ∀ i, i < 20 → h36.2 (q + 5) i = lN 0 := fun i hi => by rw [(d2 _ (by omega)).2]; exact b1 i hi
  have hLR : LR h36 q [] (fun _ => 0) (fun _ => 0) := ⟨by rw [e0]; simp [si_1], fun i p hp => by simp at hp, fun i hi => by rw [n0]; exact f4 i hi, fun i hi => by rw [n0]; exact f5 i hi, fun i hi => by rw [n0]; exact d1 i hi⟩
  have hF : Fr (inL q) h h36 := (Fr.si ⟨by omega, by omega⟩).tr ((Fr.si ⟨by omega, by omega⟩).tr ((Fr.si ⟨by omega, by omega⟩).tr ((a2.mono (fun k z => by rw [z]; exact ⟨by omega, by omega⟩)).tr ((b2.mono (fun k z => by rw [z]; exact ⟨by omega, by omega⟩)).tr (d2.mono (fun k z => by rw [z]; exact ⟨by omega, by omega⟩))))))
  refine r_al aX0_beginAt_39 rfl ?_
  refine r_il aX0_beginAt_40 rfl ?_
  refine r_ki aX0_beginAt_41 ?_
  refine r_kl aX0_beginAt_42 ?_
  refine r_VV3 aX0_beginAt_45 vX0_addItem hq.1 (K_X0_addItem hq (by decide) hs hLR) (fun h45 Q45 => ?_)
  exact r_vret hM aX0_beginAt_48 rfl ⟨Q45.1, by rw [Q45.2.1, e0]; simp [si_1], by rw [Q45.2.2.1, e0]; simp [si_1], hF.tr Q45.2.2.2⟩
theorem K_X0_copyFrom (hq : IsL q) (hp : IsL p) (hd : p + 7 ≤ q ∨ q + 7 ≤ p) : Con ad mX0_copyFrom [.ref (ad q), .ref (ad p)] h (qV fun h' => h'.1 q 0 = h.1 p 0 ∧ h'.1 q 1 = h.1 p 1 ∧ Fr (inL q) h h' ∧ ∀ (L : List Itm) (F R : Nat → Nat), L.length ≤ 60 → LR h p L F R → LR h' q L F R) := by
  have n0 : ∀ k, k < 7 → p ≠ q + k := fun k hk => by omega
  have n1 : ∀ j k, k < 7 → j < 7 → p + j ≠ q + k := fun j k hk hj => by omega
  have n2 : p ≠ q := by omega
  have n3 : ∀ j, j < 7 → p + j ≠ q := fun j hj => by omega
  refine Con.mk vX0_copyFrom.1 vX0_copyFrom.2.2.2.2 [some (.ref (ad q)), some (.ref (ad p))] rfl (Nat.le_of_ble_eq_true rfl) (fun Y hM => ?_)
  refine r_al aX0_copyFrom_0 rfl ?_
  refine r_al aX0_copyFrom_1 rfl ?_
  refine r_getI aX0_copyFrom_2 hp.1 rfl ?_
  refine r_putI aX0_copyFrom_5 hq.1 rfl rfl ?_
  refine r_al aX0_copyFrom_8 rfl ?_
  refine r_al aX0_copyFrom_9 rfl ?_
  refine r_getI aX0_copyFrom_10 hp.1 rfl ?_
  refine r_putI aX0_copyFrom_13 hq.1 rfl rfl ?_
  refine r_al aX0_copyFrom_16 rfl ?_
  refine r_al aX0_copyFrom_17 rfl ?_
  refine r_getI aX0_copyFrom_18 hp.1 rfl ?_
  refine r_putI aX0_copyFrom_21 hq.1 rfl rfl ?_
  refine r_al aX0_copyFrom_24 rfl ?_
  refine r_getR aX0_copyFrom_25 hp.1 rfl ?_
  refine r_ki aX0_copyFrom_28 ?_
  refine r_al aX0_copyFrom_29 rfl ?_
  refine r_getR aX0_copyFrom_30 hq.1 rfl ?_
  refine r_ki aX0_copyFrom_33 ?_
  refine r_ki aX0_copyFrom_34 ?_
  refine r_cpI aX0_copyFrom_36 hp.2.1 hq.2.1 (by omega) (by omega) ?_
  refine r_al aX0_copyFrom_39 rfl ?_
  refine r_getR aX0_copyFrom_40 hp.1 rfl ?_
  refine r_ki aX0_copyFrom_43 ?_
  refine r_al aX0_copyFrom_44 rfl ?_
  refine r_getR aX0_copyFrom_45 hq.1 rfl ?_
  refine r_ki aX0_copyFrom_48 ?_
  refine r_ki aX0_copyFrom_49 ?_
  refine r_cpI aX0_copyFrom_51 hp.2.2.1 hq.2.2.1 (by omega) (by omega) ?_
  refine r_al aX0_copyFrom_54 rfl ?_
  refine r_getR aX0_copyFrom_55 hp.1 rfl ?_
  refine r_ki aX0_copyFrom_58 ?_
  refine r_al aX0_copyFrom_59 rfl ?_
  refine r_getR aX0_copyFrom_60 hq.1 rfl ?_
  refine r_ki aX0_copyFrom_63 ?_
  refine r_ki aX0_copyFrom_64 ?_
  refine r_cpL aX0_copyFrom_66 hp.2.2.2.1 hq.2.2.2.1 (by omega) (by omega) ?_
  refine r_al aX0_copyFrom_69 rfl ?_
  refine r_getR aX0_copyFrom_70 hp.1 rfl ?_
  refine r_ki aX0_copyFrom_73 ?_
  refine r_al aX0_copyFrom_74 rfl ?_
  refine r_getR aX0_copyFrom_75 hq.1 rfl ?_
  refine r_ki aX0_copyFrom_78 ?_
  refine r_ki aX0_copyFrom_79 ?_
  refine r_cpL aX0_copyFrom_81 hp.2.2.2.2.1 hq.2.2.2.2.1 (by omega) (by omega) ?_
  refine r_al aX0_copyFrom_84 rfl ?_
  refine r_getR aX0_copyFrom_85 hp.1 rfl ?_
  refine r_ki aX0_copyFrom_88 ?_
  refine r_al aX0_copyFrom_89 rfl ?_
  refine r_getR aX0_copyFrom_90 hq.1 rfl ?_
  refine r_ki aX0_copyFrom_93 ?_
  refine r_ki aX0_copyFrom_94 ?_
  refine r_cpL aX0_copyFrom_96 hp.2.2.2.2.2.1 hq.2.2.2.2.2.1 (by omega) (by omega) ?_
  refine r_al aX0_copyFrom_99 rfl ?_
  refine r_getR aX0_copyFrom_100 hp.1 rfl ?_
  refine r_ki aX0_copyFrom_103 ?_
  refine r_al aX0_copyFrom_104 rfl ?_
  refine r_getR aX0_copyFrom_105 hq.1 rfl ?_
  refine r_ki aX0_copyFrom_108 ?_
  refine r_ki aX0_copyFrom_109 ?_
  refine r_cpL aX0_copyFrom_111 hp.2.2.2.2.2.2 hq.2.2.2.2.2.2 (by omega) (by omega) ?_
  refine r_vret hM aX0_copyFrom_114 rfl ?_
  refine ⟨by simp [si_1, sri_1, srl_1, n2], by simp [si_1, sri_1, srl_1, n2], (Fr.si ⟨by omega, by omega⟩).tr ((Fr.si ⟨by omega, by omega⟩).tr ((Fr.si ⟨by omega, by omega⟩).tr ((Fr.sri ⟨by omega, by omega⟩).tr ((Fr.sri ⟨by omega, by omega⟩).tr ((Fr.srl ⟨by omega, by omega⟩).tr ((Fr.srl ⟨by omega, by omega⟩).tr ((Fr.srl ⟨by omega, by omega⟩).tr (Fr.srl ⟨by omega, by omega⟩)))))))), ?_⟩
  intro L F R hl hLR
  obtain ⟨hn, hI, hF, hR, hH⟩ := hLR
  refine ⟨?_, ?_, ?_, ?_, ?_⟩
  · simp [si_1, sri_1, srl_1, n2, hn]
  · intro i x hx
    have hi := (List.getElem?_eq_some_iff.mp hx).1
    have h9 := hI i x hx
    have hi2 : i < 60 := by omega
    rw [Nat.zero_add] at h9 ⊢
    simp [si_1, sri_1, srl_1, si_2, sri_2, srl_2, va_cpy, hi2, n1, n2, n3, h9]
  · intro i hi
    have h9 := hF i hi
    rw [Nat.zero_add] at h9 ⊢
    simp [si_2, sri_2, srl_2, va_cpy, hi, n1, n2, n3, h9]
  · intro i hi
    have h9 := hR i hi
    rw [Nat.zero_add] at h9 ⊢
    simp [si_2, sri_2, srl_2, va_cpy, hi, n1, n2, n3, h9]
  · intro i hi
    have h9 := hH i hi
    rw [Nat.zero_add] at h9 ⊢
    simp [si_2, sri_2, srl_2, va_cpy, hi, n1, n2, n3, h9]
end LISTING4

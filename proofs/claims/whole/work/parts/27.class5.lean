section CLASS5
variable {ad : Nat → Nat} {h : Mem} {σ : Sta}
theorem isN {α : Type} {o : Option α} (h : o.isSome = false) : o = none := Option.isNone_iff_eq_none.mp (Option.isSome_eq_false_iff.mp h)
theorem K_X3_item {x y : Int32} (S : SI σ) (C : CRep h σ) : Con ad mX3_item [.ref (ad 0), .int x, .int y] h (qI fun r h' => r = fItem σ x y ∧ CRep h' σ ∧ Fr (fun a => a < 91) h h') := by
  refine Con.mk vX3_item.1 vX3_item.2.2.2.2 [some (.ref (ad 0)), some (.int x), some (.int y)] rfl (Nat.le_of_ble_eq_true rfl) (fun Y hM => ?_)
  refine r_il aX3_item_0 rfl ?_
  refine r_z_lt aX3_item_1 (fun c1 => ?_) (fun c1 => ?_)
  · -- to 9
    refine r_ki aX3_item_9 ?_
    exact r_iret hM aX3_item_10 rfl ⟨by unfold fItem; rw [inN_lt0 c1], C, Fr.rf⟩
  · -- to 4
    refine r_il aX3_item_4 rfl ?_
    refine r_ki aX3_item_5 ?_
    refine r_c_le aX3_item_6 (fun c6 => ?_) (fun c6 => ?_)
    · -- to 11
      obtain ⟨k, hk, rfl, hy⟩ := inN_le2 c1 c6 (by decide)
      refine r_al aX3_item_11 rfl ?_
      refine r_getR aX3_item_12 rfl rfl ?_
      refine r_VZ0 aX3_item_15 vX0_exists rfl (K_ex isL55 C.2.2.2.1 S.nb) (fun x15 h15 Q15 => ?_)
      rw [Q15.1]
      refine r_b_ne aX3_item_18 (fun c18 => ?_) (fun c18 => ?_)
      · -- to 24
        obtain ⟨l, hl⟩ := Option.isSome_iff_exists.mp (Q15.2.symm.trans c18)
        have LO1 := C.2.2.2.1
        rw [hl] at LO1
        obtain ⟨a1, a2, a3⟩ := LO1
        have hI := (S.2.2.1 l hl).2
        have h60 := hI.1
        have E0 : fItem σ x (nI k) = match inN x l.2.2.1.length with
            | none => -1
            | some i => if k = 0 then nI (gi l.2.2.1 i).1 else nI (gi l.2.2.1 i).2.1 := by
          unfold fItem
          rw [hy]
          dsimp only
          rw [hl]
          rfl
        rw [E0] at hM
        refine r_al aX3_item_24 rfl ?_
        refine r_getR aX3_item_25 rfl rfl ?_
        refine r_il aX3_item_28 rfl ?_
        refine r_VZ1 aX3_item_29 vX0_hasItem rfl (K_X0_hasItem isL55 a3.1 h60) (fun x29 h29 Q29 => ?_)
        rw [Q29.1]
        refine r_b_ne aX3_item_32 (fun c32 => ?_) (fun c32 => ?_)
        · -- to 37
          obtain ⟨i, hi, rfl⟩ := Q29.2.mp c32
          clear Q29
          rw [inN_nI hi (by omega)] at hM
          dsimp only at hM
          obtain ⟨e1, e2, e3⟩ := a3.2.1.gi hi
          rw [n0] at e1 e2 e3
          refine r_il aX3_item_37 rfl ?_
          refine r_nz_ne aX3_item_38 (by omega) (fun c38 => ?_) (fun c38 => ?_)
          · -- to 53
            refine r_al aX3_item_53 rfl ?_
            refine r_getR aX3_item_54 rfl rfl ?_
            refine r_getR aX3_item_57 rfl rfl ?_
            refine r_il aX3_item_60 rfl ?_
            refine r_xI aX3_item_61 rfl (by omega) e2 ?_
            exact r_iret hM aX3_item_62 rfl ⟨by rw [if_neg c38], C, Fr.rf⟩
          · -- to 41
            refine r_al aX3_item_41 rfl ?_
            refine r_getR aX3_item_42 rfl rfl ?_
            refine r_getR aX3_item_45 rfl rfl ?_
            refine r_il aX3_item_48 rfl ?_
            refine r_xI aX3_item_49 rfl (by omega) e1 ?_
            refine r_go aX3_item_50 ?_
            exact r_iret hM aX3_item_62 rfl ⟨by rw [if_pos c38], C, Fr.rf⟩
        · -- to 35
          refine r_ki aX3_item_35 ?_
          exact r_iret hM aX3_item_36 rfl ⟨by rw [(inN_n (by omega)).mpr (fun q => by rw [Q29.2.mpr q] at c32; cases c32)], C, Fr.rf⟩
      · -- to 21
        refine r_ki aX3_item_21 ?_
        exact r_iret hM aX3_item_23 rfl ⟨by unfold fItem; rw [hy]; dsimp only; rw [isN (Q15.2.symm.trans c18)], C, Fr.rf⟩
    · -- to 9
      refine r_ki aX3_item_9 ?_
      exact r_iret hM aX3_item_10 rfl ⟨by unfold fItem; rw [inN_nle c6 (by decide)], C, Fr.rf⟩
theorem K_X3_units {x : Int32} (S : SI σ) (C : CRep h σ) : Con ad mX3_units [.ref (ad 0), .int x] h (qL fun r h' => r = fUnits σ x ∧ CRep h' σ ∧ Fr (fun a => a < 91) h h') := by
  refine Con.mk vX3_units.1 vX3_units.2.2.2.2 [some (.ref (ad 0)), some (.int x)] rfl (Nat.le_of_ble_eq_true rfl) (fun Y hM => ?_)
  refine r_al aX3_units_0 rfl ?_
  refine r_getR aX3_units_1 rfl rfl ?_
  refine r_VZ0 aX3_units_4 vX0_exists rfl (K_ex isL55 C.2.2.2.1 S.nb) (fun x4 h4 Q4 => ?_)
  rw [Q4.1]
  refine r_b_eq aX3_units_7 (fun c7 => ?_) (fun c7 => ?_)
  · -- to 33
    refine r_kl aX3_units_33 ?_
    exact r_lret hM aX3_units_34 rfl ⟨by unfold fUnits; rw [isN (Q4.2.symm.trans c7)], C, Fr.rf⟩
  · -- to 10
    obtain ⟨l, hl⟩ := Option.isSome_iff_exists.mp (Q4.2.symm.trans c7)
    have LO1 := C.2.2.2.1
    rw [hl] at LO1
    obtain ⟨a1, a2, a3⟩ := LO1
    have h60 := (S.2.2.1 l hl).2.1
    have E0 : fUnits σ x = match inN x l.2.2.1.length with
        | none => lN 0
        | some i => lN (gi l.2.2.1 i).2.2 := by
      unfold fUnits
      rw [hl]
      rfl
    rw [E0] at hM
    refine r_al aX3_units_10 rfl ?_
    refine r_getR aX3_units_11 rfl rfl ?_
    refine r_il aX3_units_14 rfl ?_
    refine r_VZ1 aX3_units_15 vX0_hasItem rfl (K_X0_hasItem isL55 a3.1 h60) (fun x15 h15 Q15 => ?_)
    rw [Q15.1]
    refine r_b_eq aX3_units_18 (fun c18 => ?_) (fun c18 => ?_)
    · -- to 33
      refine r_kl aX3_units_33 ?_
      exact r_lret hM aX3_units_34 rfl ⟨by rw [(inN_n (by omega)).mpr (fun q => by rw [Q15.2.mpr q] at c18; cases c18)], C, Fr.rf⟩
    · -- to 21
      obtain ⟨i, hi, rfl⟩ := Q15.2.mp c18
      clear Q15
      rw [inN_nI hi (by omega)] at hM
      obtain ⟨e1, e2, e3⟩ := a3.2.1.gi hi
      rw [n0] at e1 e2 e3
      refine r_al aX3_units_21 rfl ?_
      refine r_getR aX3_units_22 rfl rfl ?_
      refine r_getR aX3_units_25 rfl rfl ?_
      refine r_il aX3_units_28 rfl ?_
      refine r_xL aX3_units_29 rfl (by omega) e3 ?_
      refine r_go aX3_units_30 ?_
      exact r_lret hM aX3_units_34 rfl ⟨rfl, C, Fr.rf⟩
theorem K_X3_found {x : Int32} (S : SI σ) (C : CRep h σ) : Con ad mX3_found [.ref (ad 0), .int x] h (qL fun r h' => r = fFound σ x ∧ CRep h' σ ∧ Fr (fun a => a < 91) h h') := by
  refine Con.mk vX3_found.1 vX3_found.2.2.2.2 [some (.ref (ad 0)), some (.int x)] rfl (Nat.le_of_ble_eq_true rfl) (fun Y hM => ?_)
  refine r_al aX3_found_0 rfl ?_
  refine r_getR aX3_found_1 rfl rfl ?_
  refine r_VZ0 aX3_found_4 vX0_exists rfl (K_ex isL55 C.2.2.2.1 S.nb) (fun x4 h4 Q4 => ?_)
  rw [Q4.1]
  refine r_b_eq aX3_found_7 (fun c7 => ?_) (fun c7 => ?_)
  · -- to 29
    refine r_kl aX3_found_29 ?_
    exact r_lret hM aX3_found_30 rfl ⟨by unfold fFound; rw [isN (Q4.2.symm.trans c7)], C, Fr.rf⟩
  · -- to 10
    refine r_il aX3_found_10 rfl ?_
    refine r_SZ1 aX3_found_11 vX3_isOutcome (K_X3_isOutcome) (fun x11 h11 Q11 => ?_)
    rw [Q11.1]
    refine r_b_eq aX3_found_14 (fun c14 => ?_) (fun c14 => ?_)
    · -- to 29
      refine r_kl aX3_found_29 ?_
      exact r_lret hM aX3_found_30 rfl ⟨by unfold fFound; rw [inN_no (Q11.2.symm.trans c14)]; cases σ.2.2.2.1 <;> rfl, C, Fr.rf⟩
    · -- to 17
      obtain ⟨l, hl⟩ := Option.isSome_iff_exists.mp (Q4.2.symm.trans c7)
      have LO1 := C.2.2.2.1
      rw [hl] at LO1
      obtain ⟨a1, a2, a3⟩ := LO1
      obtain ⟨o, ho, rfl, hx⟩ := inN_ex (by decide) (Q11.2.symm.trans c14)
      have e := a3.2.2.1 o ho
      rw [n0] at e
      refine r_al aX3_found_17 rfl ?_
      refine r_getR aX3_found_18 rfl rfl ?_
      refine r_getR aX3_found_21 rfl rfl ?_
      refine r_il aX3_found_24 rfl ?_
      refine r_xL aX3_found_25 rfl (by omega) e ?_
      refine r_go aX3_found_26 ?_
      exact r_lret hM aX3_found_30 rfl ⟨by unfold fFound; rw [hl, hx], C, Fr.rf⟩
theorem K_X3_rests {x : Int32} (S : SI σ) (C : CRep h σ) : Con ad mX3_rests [.ref (ad 0), .int x] h (qL fun r h' => r = fRests σ x ∧ CRep h' σ ∧ Fr (fun a => a < 91) h h') := by
  have h20 := S.ww.n
  refine Con.mk vX3_rests.1 vX3_rests.2.2.2.2 [some (.ref (ad 0)), some (.int x)] rfl (Nat.le_of_ble_eq_true rfl) (fun Y hM => ?_)
  refine r_al aX3_rests_0 rfl ?_
  refine r_getR aX3_rests_1 rfl rfl ?_
  refine r_VZ0 aX3_rests_4 vX0_exists rfl (K_ex isL55 C.2.2.2.1 S.nb) (fun x4 h4 Q4 => ?_)
  rw [Q4.1]
  refine r_b_eq aX3_rests_7 (fun c7 => ?_) (fun c7 => ?_)
  · -- to 33
    refine r_kl aX3_rests_33 ?_
    exact r_lret hM aX3_rests_34 rfl ⟨by unfold fRests; rw [isN (Q4.2.symm.trans c7)], C, Fr.rf⟩
  · -- to 10
    refine r_al aX3_rests_10 rfl ?_
    refine r_getR aX3_rests_11 rfl rfl ?_
    refine r_il aX3_rests_14 rfl ?_
    refine r_VZ1 aX3_rests_15 vX2_has rfl (K_X2_has S.ww C.1) (fun x15 h15 Q15 => ?_)
    rw [Q15.1]
    refine r_b_eq aX3_rests_18 (fun c18 => ?_) (fun c18 => ?_)
    · -- to 33
      refine r_kl aX3_rests_33 ?_
      exact r_lret hM aX3_rests_34 rfl ⟨by unfold fRests; rw [(inN_n (by omega)).mpr (fun q => by rw [Q15.2.mpr q] at c18; cases c18)]; cases σ.2.2.2.1 <;> rfl, C, Fr.rf⟩
    · -- to 21
      obtain ⟨l, hl⟩ := Option.isSome_iff_exists.mp (Q4.2.symm.trans c7)
      have LO1 := C.2.2.2.1
      rw [hl] at LO1
      obtain ⟨a1, a2, a3⟩ := LO1
      obtain ⟨s, hs, rfl⟩ := Q15.2.mp c18
      clear Q15
      have e := a3.2.2.2.1 s (by omega)
      rw [n0] at e
      refine r_al aX3_rests_21 rfl ?_
      refine r_getR aX3_rests_22 rfl rfl ?_
      refine r_getR aX3_rests_25 rfl rfl ?_
      refine r_il aX3_rests_28 rfl ?_
      refine r_xL aX3_rests_29 rfl (by omega) e ?_
      refine r_go aX3_rests_30 ?_
      exact r_lret hM aX3_rests_34 rfl ⟨by unfold fRests; rw [hl, inN_nI hs (by omega)], C, Fr.rf⟩
theorem K_X3_save {x : Int32} (S : SI σ) (C : CRep h σ) : Con ad mX3_save [.ref (ad 0), .int x] h (qI fun r h' => r = (fSave σ x).1 ∧ CRep h' (fSave σ x).2 ∧ Fr (fun a => a < 91) h h') := by
  refine Con.mk vX3_save.1 vX3_save.2.2.2.2 [some (.ref (ad 0)), some (.int x)] rfl (Nat.le_of_ble_eq_true rfl) (fun Y hM => ?_)
  refine r_il aX3_save_0 rfl ?_
  refine r_SZ1 aX3_save_1 vX3_isSave (K_X3_isSave) (fun x1 h1 Q1 => ?_)
  rw [Q1.1]
  refine r_b_ne aX3_save_4 (fun c4 => ?_) (fun c4 => ?_)
  · -- to 9
    obtain ⟨k, hk, rfl, hx⟩ := inN_ex (by decide) (Q1.2.symm.trans c4)
    have hq := isLk k hk
    refine r_al aX3_save_9 rfl ?_
    refine r_getR aX3_save_10 rfl rfl ?_
    refine r_VZ0 aX3_save_13 vX0_exists rfl (K_ex isL55 C.2.2.2.1 S.nb) (fun x13 h13 Q13 => ?_)
    rw [Q13.1]
    refine r_b_ne aX3_save_16 (fun c16 => ?_) (fun c16 => ?_)
    · -- to 22
      obtain ⟨l, hl⟩ := Option.isSome_iff_exists.mp (Q13.2.symm.trans c16)
      have LO1 := C.2.2.2.1
      rw [hl] at LO1
      obtain ⟨a1, a2, a3⟩ := LO1
      have h60 := (S.2.2.1 l hl).2.1
      refine r_al aX3_save_22 rfl ?_
      refine r_getR aX3_save_23 rfl rfl ?_
      refine r_il aX3_save_26 rfl ?_
      refine r_aaldL aX3_save_27 rfl hk (if_pos hk) ?_
      refine r_al aX3_save_28 rfl ?_
      refine r_getR aX3_save_29 rfl rfl ?_
      refine r_VV1 aX3_save_32 vX0_copyFrom hq.1 (K_X0_copyFrom hq isL55 (by omega)) (fun h32 Q32 => ?_)
      obtain ⟨q1, q2, q3, q4⟩ := Q32
      have e55 : h32.1 55 2 = nI l.2.2.1.length := by rw [(q3 55 (fun z => by have := z.1; omega)).1]; exact a3.1
      refine r_al aX3_save_35 rfl ?_
      refine r_getR aX3_save_36 rfl rfl ?_
      refine r_gI aX3_save_39 rfl rfl e55 ?_
      refine r_iret hM aX3_save_42 rfl ?_
      have E0 : fSave σ (nI k) = (nI l.2.2.1.length, (σ.1, σ.2.1, σ.2.2.1, some l, va_up σ.2.2.2.2 k (some l))) := by
        unfold fSave
        rw [hx]
        dsimp only
        rw [hl]
      rw [E0]
      have hV := C.2.2.2.2.2 (Or.inl (by rw [hl]; exact fun z => by cases z))
      have p : ∀ a, inL (70 + 7 * k) a → 70 ≤ a ∧ a < 91 := fun a z => by have := z.1; have := z.2; omega
      have e0 : h32.1 0 = h.1 0 := (q3 0 (fun z => by have := z.1; omega)).1
      refine ⟨rfl, ⟨C.1.fr q3 (fun a z => by have := p a z; omega), by rw [e0]; exact C.2.1, by rw [e0]; exact C.2.2.1, ?_, fun j hj => ?_, fun _ => hV.fr q3 (fun a z => by have := p a z; omega)⟩, q3.mono (fun a z => (p a z).2)⟩
      · have := C.2.2.2.1.fr q3 (fun a z => by have := p a z; omega)
        rw [hl] at this
        exact this
      · show LO h32 (70 + 7 * j) (va_up σ.2.2.2.2 k (some l) j)
        by_cases e : j = k
        · subst e
          rw [mu_self]
          exact ⟨q1.trans a1, q2.trans a2, q4 _ _ _ h60 a3⟩
        · rw [mu_ne e]
          exact (C.2.2.2.2.1 j hj).fr q3 (fun a z => by have := z.1; have := z.2; omega)
    · -- to 19
      refine r_ki aX3_save_19 ?_
      exact r_iret hM aX3_save_21 rfl (by unfold fSave; rw [hx]; dsimp only; rw [isN (Q13.2.symm.trans c16)]; exact ⟨rfl, C, Fr.rf⟩)
  · -- to 7
    refine r_ki aX3_save_7 ?_
    exact r_iret hM aX3_save_8 rfl (by unfold fSave; rw [inN_no (Q1.2.symm.trans c4)]; exact ⟨rfl, C, Fr.rf⟩)
theorem K_X3_back {x : Int32} (S : SI σ) (C : CRep h σ) : Con ad mX3_back [.ref (ad 0), .int x] h (qI fun r h' => r = (fBack σ x).1 ∧ CRep h' (fBack σ x).2 ∧ Fr (fun a => a < 91) h h') := by
  refine Con.mk vX3_back.1 vX3_back.2.2.2.2 [some (.ref (ad 0)), some (.int x)] rfl (Nat.le_of_ble_eq_true rfl) (fun Y hM => ?_)
  refine r_il aX3_back_0 rfl ?_
  refine r_SZ1 aX3_back_1 vX3_isSave (K_X3_isSave) (fun x1 h1 Q1 => ?_)
  rw [Q1.1]
  refine r_b_ne aX3_back_4 (fun c4 => ?_) (fun c4 => ?_)
  · -- to 9
    obtain ⟨k, hk, rfl, hx⟩ := inN_ex (by decide) (Q1.2.symm.trans c4)
    have hq := isLk k hk
    refine r_al aX3_back_9 rfl ?_
    refine r_getR aX3_back_10 rfl rfl ?_
    refine r_il aX3_back_13 rfl ?_
    refine r_aaldL aX3_back_14 rfl hk (if_pos hk) ?_
    refine r_VZ0 aX3_back_15 vX0_exists hq.1 (K_ex hq (C.2.2.2.2.1 k hk) (S.kb k)) (fun x15 h15 Q15 => ?_)
    rw [Q15.1]
    refine r_b_ne aX3_back_18 (fun c18 => ?_) (fun c18 => ?_)
    · -- to 24
      obtain ⟨l, hl⟩ := Option.isSome_iff_exists.mp (Q15.2.symm.trans c18)
      have LO1 := C.2.2.2.2.1 k hk
      rw [hl] at LO1
      obtain ⟨a1, a2, a3⟩ := LO1
      have h60 := (S.2.2.2 k l hl).2.1
      refine r_al aX3_back_24 rfl ?_
      refine r_getR aX3_back_25 rfl rfl ?_
      refine r_al aX3_back_28 rfl ?_
      refine r_getR aX3_back_29 rfl rfl ?_
      refine r_il aX3_back_32 rfl ?_
      refine r_aaldL aX3_back_33 rfl hk (if_pos hk) ?_
      refine r_VV1 aX3_back_34 vX0_copyFrom rfl (K_X0_copyFrom isL55 hq (by omega)) (fun h34 Q34 => ?_)
      obtain ⟨q1, q2, q3, q4⟩ := Q34
      have L2 := q4 _ _ _ h60 a3
      refine r_al aX3_back_37 rfl ?_
      refine r_getR aX3_back_38 rfl rfl ?_
      refine r_gI aX3_back_41 rfl rfl L2.1 ?_
      refine r_iret hM aX3_back_44 rfl ?_
      have E0 : fBack σ (nI k) = (nI l.2.2.1.length, setNow σ (some l)) := by
        unfold fBack
        rw [hx]
        dsimp only
        rw [hl]
      rw [E0]
      exact ⟨rfl, C.now q3 (fun a z => Or.inl (Or.inl z)) ⟨q1.trans a1, q2.trans a2, L2⟩ (fun _ => C.2.2.2.2.2 (Or.inr ⟨k, hk, by rw [hl]; exact fun z => by cases z⟩)), q3.mono (fun a z => by have := z.2; omega)⟩
    · -- to 21
      refine r_ki aX3_back_21 ?_
      exact r_iret hM aX3_back_23 rfl (by unfold fBack; rw [hx]; dsimp only; rw [isN (Q15.2.symm.trans c18)]; exact ⟨rfl, C, Fr.rf⟩)
  · -- to 7
    refine r_ki aX3_back_7 ?_
    exact r_iret hM aX3_back_8 rfl (by unfold fBack; rw [inN_no (Q1.2.symm.trans c4)]; exact ⟨rfl, C, Fr.rf⟩)
theorem K_X3_told {x : Int32} (S : SI σ) (C : CRep h σ) : Con ad mX3_told [.ref (ad 0), .int x] h (qI fun r h' => r = fTold σ x ∧ CRep h' σ ∧ Fr (fun a => a < 91) h h') := by
  have h20 := S.ww.n
  have n5 := C.2.1
  have hn := C.1.1
  have L1 := C.2.2.2.1
  refine Con.mk vX3_told.1 vX3_told.2.2.2.2 [some (.ref (ad 0)), some (.int x)] rfl (Nat.le_of_ble_eq_true rfl) (fun Y hM => ?_)
  refine r_il aX3_told_0 rfl ?_
  cases hx : inN x 5 with
  | some j =>
    obtain ⟨hj, rfl⟩ := (inN_s (by decide)).mp hx
    have ti : (nI j).toInt = (j : Int) := nI_toInt (by omega)
    rcases (by omega : j = 0 ∨ j = 1 ∨ j = 2 ∨ j = 3 ∨ j = 4) with rfl | rfl | rfl | rfl | rfl
    · refine r_tsI tw_X3_told (by rw [ti]; decide) (by rw [ti]; decide) (off := 35) (by rw [ti]; decide) (tgt := 36) (by decide) ?_
      refine r_al aX3_told_36 rfl ?_
      refine r_getR aX3_told_37 rfl rfl ?_
      refine r_gI aX3_told_40 rfl rfl hn ?_
      exact r_iret hM aX3_told_43 rfl ⟨by unfold fTold; rw [hx]; rfl, C, Fr.rf⟩
    · refine r_tsI tw_X3_told (by rw [ti]; decide) (by rw [ti]; decide) (off := 43) (by rw [ti]; decide) (tgt := 44) (by decide) ?_
      refine r_al aX3_told_44 rfl ?_
      refine r_getR aX3_told_45 rfl rfl ?_
      refine r_getI aX3_told_48 rfl rfl ?_
      exact r_iret hM aX3_told_51 rfl ⟨by unfold fTold; rw [hx]; revert L1; cases σ.2.2.2.1 with | none => intro L1; exact L1.2.2 | some l => intro L1; exact L1.2.2.1, C, Fr.rf⟩
    · refine r_tsI tw_X3_told (by rw [ti]; decide) (by rw [ti]; decide) (off := 51) (by rw [ti]; decide) (tgt := 52) (by decide) ?_
      refine r_al aX3_told_52 rfl ?_
      refine r_getR aX3_told_53 rfl rfl ?_
      refine r_getI aX3_told_56 rfl rfl ?_
      exact r_iret hM aX3_told_59 rfl ⟨by unfold fTold; rw [hx]; revert L1; cases σ.2.2.2.1 with | none => intro L1; exact L1.2.1 | some l => intro L1; exact L1.2.1, C, Fr.rf⟩
    · refine r_tsI tw_X3_told (by rw [ti]; decide) (by rw [ti]; decide) (off := 59) (by rw [ti]; decide) (tgt := 60) (by decide) ?_
      refine r_al aX3_told_60 rfl ?_
      refine r_getR aX3_told_61 rfl rfl ?_
      refine r_getI aX3_told_64 rfl rfl ?_
      exact r_iret hM aX3_told_67 rfl ⟨by unfold fTold; rw [hx]; revert L1; cases σ.2.2.2.1 with | none => intro L1; exact L1.1 | some l => intro L1; exact L1.1, C, Fr.rf⟩
    · refine r_tsI tw_X3_told (by rw [ti]; decide) (by rw [ti]; decide) (off := 67) (by rw [ti]; decide) (tgt := 68) (by decide) ?_
      refine r_al aX3_told_68 rfl ?_
      refine r_gI aX3_told_69 rfl rfl n5 ?_
      exact r_iret hM aX3_told_72 rfl ⟨by unfold fTold; rw [hx]; rfl, C, Fr.rf⟩
  | none =>
    have hout : x.toInt < 0 ∨ 4 < x.toInt := by
      rcases Classical.em (x.toInt < 0 ∨ 4 < x.toInt) with z | z
      · exact z
      · exfalso
        have h0 : ¬ x < 0 := fun q => z (Or.inl (by rw [Int32.lt_iff_toInt_lt, Int32.toInt_zero] at q; exact q))
        have h5 : ¬ nI 5 ≤ x := fun q => z (Or.inr (by rw [Int32.le_iff_toInt_le, nI_toInt (by decide)] at q; omega))
        have := inN_in h0 h5
        rw [hx] at this
        cases this
    refine r_tsO tw_X3_told hout (tgt := 73) (by decide) ?_
    have E0 : fTold σ x = match inN (x - nI 10) σ.1.1 with
        | none => -1
        | some s => oI (σ.1.2.2.2 s) := by unfold fTold; rw [hx]; rfl
    rw [E0] at hM
    have small : x < nI 10 → inN (x - nI 10) σ.1.1 = none := by
      intro hlt
      apply (inN_n (by omega)).mpr
      rintro ⟨s, hs, e⟩
      have e2 : x = nI (s + 10) := by
        have : x - nI 10 + nI 10 = nI s + nI 10 := by rw [e]
        rw [Int32.sub_add_cancel, nI_add] at this
        exact this
      rw [e2, nI_ltI (by omega) (by omega)] at hlt
      omega
    refine r_il aX3_told_73 rfl ?_
    refine r_ki aX3_told_74 ?_
    refine r_c_lt aX3_told_76 (fun c76 => ?_) (fun c76 => ?_)
    · -- to 108
      refine r_ki aX3_told_108 ?_
      exact r_iret hM aX3_told_109 rfl ⟨by rw [small c76], C, Fr.rf⟩
    · -- to 79
      refine r_al aX3_told_79 rfl ?_
      refine r_getR aX3_told_80 rfl rfl ?_
      refine r_il aX3_told_83 rfl ?_
      refine r_ki aX3_told_84 ?_
      refine r_isub aX3_told_86 ?_
      refine r_VZ1 aX3_told_87 vX2_has rfl (K_X2_has S.ww C.1) (fun x87 h87 Q87 => ?_)
      rw [Q87.1]
      refine r_b_eq aX3_told_90 (fun c90 => ?_) (fun c90 => ?_)
      · -- to 108
        refine r_ki aX3_told_108 ?_
        exact r_iret hM aX3_told_109 rfl ⟨by rw [(inN_n (by omega)).mpr (fun q => by rw [Q87.2.mpr q] at c90; cases c90)], C, Fr.rf⟩
      · -- to 93
        obtain ⟨s, hs, e⟩ := Q87.2.mp c90
        rw [e, inN_nI hs (by omega)] at hM
        clear Q87
        have el := C.1.2.2.1 s hs
        refine r_al aX3_told_93 rfl ?_
        refine r_getR aX3_told_94 rfl rfl ?_
        refine r_getR aX3_told_97 rfl rfl ?_
        refine r_il aX3_told_100 rfl ?_
        refine r_ki aX3_told_101 ?_
        refine r_isub aX3_told_103 ?_
        refine r_ti e ?_
        refine r_xI aX3_told_104 rfl (by omega) el ?_
        refine r_go aX3_told_105 ?_
        exact r_iret hM aX3_told_109 rfl ⟨rfl, C, Fr.rf⟩
end CLASS5

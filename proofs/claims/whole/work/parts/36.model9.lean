theorem in_O {x : Int32} {b : Bool} (H : b = true ↔ ¬ x < -1 ∧ ¬ nI 7 < x) : (b = true → x = oI (inN x 8) ∧ ¬ (x ≠ -1 ∧ inN x 8 = none)) ∧ (b = false → x ≠ -1 ∧ inN x 8 = none) := by
  by_cases hx : x = -1
  · subst hx
    have hb : b = true := H.mpr ⟨by decide, by decide⟩
    refine ⟨fun _ => ⟨by rw [inN_lt0 (by decide)]; rfl, fun z => z.1 rfl⟩, fun z => ?_⟩
    rw [hb] at z; cases z
  · cases hz : inN x 8 with
    | none =>
      have hb : b = false := by
        cases hb : b with
        | false => rfl
        | true =>
          exfalso
          obtain ⟨h1, h2⟩ := H.mp hb
          have h0 : ¬ x < 0 := by
            intro z
            apply hx
            apply Int32.toInt_inj.mp
            rw [Int32.lt_iff_toInt_lt, Int32.toInt_zero] at z
            rw [Int32.lt_iff_toInt_lt, show (-1 : Int32).toInt = -1 from by decide] at h1
            rw [show (-1 : Int32).toInt = -1 from by decide]
            clear H
            omega
          have := inN_le h0 h2 (by decide)
          rw [hz] at this
          cases this
      refine ⟨fun z => ?_, fun _ => ⟨hx, rfl⟩⟩
      rw [hb] at z; cases z
    | some j =>
      obtain ⟨hj, rfl⟩ := (inN_s (by decide)).mp hz
      have hb : b = true := H.mpr ⟨fun z => nI_pos (n := j) (by clear H; omega) (by
        rw [Int32.lt_iff_toInt_lt] at z ⊢
        rw [show (-1 : Int32).toInt = -1 from by decide] at z
        rw [Int32.toInt_zero]
        clear H
        omega), fun z => by have := (nI_ltI (by decide) (by clear H; omega)).mp z; clear H; omega⟩
      refine ⟨fun _ => ⟨rfl, fun z => by cases z.2⟩, fun z => ?_⟩
      rw [hb] at z; cases z
theorem in_K {z : Int32} {b : Bool} (H : b = true ↔ ¬ z < nI 1 ∧ ¬ nI 16 < z) : (b = true → ∃ k, 1 ≤ k ∧ k < 17 ∧ z = nI k ∧ inN z 17 = some k) ∧ (b = false → inN z 17 = none ∨ inN z 17 = some 0) := by
  constructor
  · intro hb
    obtain ⟨h1, h2⟩ := H.mp hb
    clear H
    have h0 : ¬ z < 0 := fun q => h1 (by
      rw [Int32.lt_iff_toInt_lt] at q ⊢
      rw [nI_toInt (by decide)]
      rw [Int32.toInt_zero] at q
      omega)
    obtain ⟨k, hk, rfl, hz⟩ := inN_ex (by decide) (inN_le h0 h2 (by decide))
    refine ⟨k, ?_, hk, rfl, hz⟩
    rcases Nat.eq_zero_or_pos k with q | q
    · subst q; exact absurd (by decide) h1
    · exact q
  · intro hb
    cases hz : inN z 17 with
    | none => exact Or.inl rfl
    | some k =>
      right
      obtain ⟨hk, rfl⟩ := (inN_s (by decide)).mp hz
      rcases Nat.eq_zero_or_pos k with q | q
      · rw [q]
      · exfalso
        have : b = true := H.mpr ⟨fun y => by have := (nI_ltI (by clear H; omega) (by decide)).mp y; clear H; omega, fun y => by have := (nI_ltI (by decide) (by clear H; omega)).mp y; clear H; omega⟩
        rw [hb] at this
        cases this
theorem lawB_f {w : Wk} {s t : Nat} (H : ¬ LawOk w s t) : lawB w s t = false := by
  cases hb : lawB w s t with
  | false => rfl
  | true => exact absurd (lawB_iff.mp hb) H
/-- after forget -/
theorem forgot {h h' : Mem} {σ : Sta} (hW : WW σ.1) (C : MRep h σ) (Q : h'.1 91 18 = bI false ∧ (∀ j, j ≠ 18 → h'.1 91 j = h.1 91 j) ∧ (∀ l, l < 5 → h'.1 98 l = bI false) ∧ (∀ s, s < 20 → h'.1 97 s = -1) ∧ Fr (fun a => a = 91 ∨ a = 97 ∨ a = 98) h h') : MW h' (σ.1.1, σ.1.2.1, σ.1.2.2.1, noW) ∧ h'.1 91 7 = nI σ.2.1 ∧ h'.1 91 8 = bI σ.2.2.1 ∧ MO h' 0 none ∧ (∀ k, k < 3 → MO h' (1 + k) none) := by
  obtain ⟨q1, q2, q3, q4, q5⟩ := Q
  obtain ⟨⟨a, b, c, d, g, i⟩, c2, c3, -, -, -⟩ := C
  have f : ∀ x, x ≠ 91 → x ≠ 97 → x ≠ 98 → h'.1 x = h.1 x := fun x h1 h2 h3 => (q5 x (fun z => by rcases z with z | z | z; exact h1 z; exact h2 z; exact h3 z)).1
  have h20 := hW.n
  refine ⟨⟨(q2 0 (by omega)).trans a, fun s hs => by rw [f 92 (by omega) (by omega) (by omega)]; exact b s hs, fun s hs => by rw [f 93 (by omega) (by omega) (by omega)]; exact c s hs, fun s hs j p hp => by rw [f 94 (by omega) (by omega) (by omega), f 95 (by omega) (by omega) (by omega)]; exact d s hs j p hp, fun s hs => by rw [f 96 (by omega) (by omega) (by omega)]; exact g s hs, fun s hs => ?_⟩, (q2 7 (by omega)).trans c2, (q2 8 (by omega)).trans c3, q3 0 (by omega), fun k hk => q3 (1 + k) (by omega)⟩
  have hs : s < σ.1.1 := hs
  rw [q4 s (by omega)]; rfl
/-- another list of arrows -/
theorem MW.arrow {h h' : Mem} {w : Wk} {s : Nat} {L : List (Nat × Nat)} (hW : WW w) (H : MW h w) (hL : L.length ≤ 16) (e91 : h'.1 91 0 = h.1 91 0) (e92 : h'.1 92 = h.1 92) (e97 : h'.1 97 = h.1 97) (e93 : h'.1 93 s = nI L.length) (f93 : ∀ x, x ≠ s → h'.1 93 x = h.1 93 x) (e94 : ∀ (i : Nat) (p : Nat × Nat), L[i]? = some p → h'.1 94 (20 * s + i) = nI p.1 ∧ h'.1 95 (20 * s + i) = nI p.2) (f94 : ∀ x, (x < 20 * s ∨ 20 * s + 16 ≤ x) → h'.1 94 x = h.1 94 x ∧ h'.1 95 x = h.1 95 x) (e96 : h'.1 96 s = nI (tot L)) (f96 : ∀ x, x ≠ s → h'.1 96 x = h.1 96 x) : MW h' (w.1, w.2.1, va_up w.2.2.1 s L, w.2.2.2) := by
  obtain ⟨a, b, c, d, g, i⟩ := H
  refine ⟨e91.trans a, fun x hx => by rw [e92]; exact b x hx, fun x hx => ?_, fun x hx j p hp => ?_, fun x hx => ?_, fun x hx => by rw [e97]; exact i x hx⟩
  · show h'.1 93 x = nI (va_up w.2.2.1 s L x).length
    by_cases e : x = s
    · subst e; rw [mu_self]; exact e93
    · rw [mu_ne e, f93 x e]; exact c x hx
  · have hp : (va_up w.2.2.1 s L x)[j]? = some p := hp
    by_cases e : x = s
    · subst e; rw [mu_self] at hp; exact e94 j p hp
    · rw [mu_ne e] at hp
      have hj := (List.getElem?_eq_some_iff.mp hp).1
      have := hW.len x
      obtain ⟨z1, z2⟩ := f94 (20 * x + j) (by omega)
      rw [z1, z2]
      exact d x hx j p hp
  · show h'.1 96 x = nI (tot (va_up w.2.2.1 s L x))
    by_cases e : x = s
    · subst e; rw [mu_self]; exact e96
    · rw [mu_ne e, f96 x e]; exact g x hx
section MODEL9
variable {ad : Nat → Nat} {h : Mem} {σ : Sta}
theorem K_X4_state {x : Int32} (S : SI σ) (C : MRep h σ) : Con ad mX4_state [.ref (ad 91), .int x] h (qI fun r h' => r = (fState σ x).1 ∧ MRep h' (fState σ x).2 ∧ Fr (fun a => 91 ≤ a) h h') := by
  have hW := S.ww
  have h20 := hW.n
  have hn := C.1.1
  refine Con.mk vX4_state.1 vX4_state.2.2.2.2 [some (.ref (ad 91)), some (.int x)] rfl (Nat.le_of_ble_eq_true rfl) (fun Y hM => ?_)
  refine r_il aX4_state_0 rfl ?_
  refine r_ki aX4_state_1 ?_
  refine r_ki aX4_state_2 ?_
  refine r_SZ3 aX4_state_4 vX4_in (K_X4_in) (fun x4 h4 Q4 => ?_)
  rw [Q4.1]
  refine r_b_ne aX4_state_7 (fun c7 => ?_) (fun c7 => ?_)
  · -- to 12
    refine r_al aX4_state_12 rfl ?_
    refine r_gI aX4_state_13 rfl rfl hn ?_
    refine r_ki aX4_state_16 ?_
    refine r_n_ne aX4_state_18 (by omega) (by omega) (fun c18 => ?_) (fun c18 => ?_)
    · -- to 24
      obtain ⟨hx, hb⟩ := (in_O Q4.2).1 c7
      clear Q4
      have E0 : fState σ x = (nI σ.1.1, nwS σ (σ.1.1 + 1) (va_up σ.1.2.1 σ.1.1 (inN x 8)) σ.1.2.2.1) := by
        unfold fState
        rw [if_neg hb, if_neg (by omega)]
      rw [E0] at hM
      clear E0
      refine r_al aX4_state_24 rfl ?_
      refine r_VV0 aX4_state_25 vX4_forget rfl K_X4_forget (fun h25 Q25 => ?_)
      obtain ⟨f1, f2, f3, f4, f5⟩ := forgot hW C Q25
      obtain ⟨q1, q2, q3, q4, q5⟩ := Q25
      have hn2 := f1.1
      refine r_al aX4_state_28 rfl ?_
      refine r_getR aX4_state_29 rfl rfl ?_
      refine r_al aX4_state_32 rfl ?_
      refine r_gI aX4_state_33 rfl rfl (v := nI σ.1.1) hn2 ?_
      refine r_il aX4_state_36 rfl ?_
      refine r_iast aX4_state_37 rfl (by omega) ?_
      refine r_al aX4_state_38 rfl ?_
      refine r_getR aX4_state_39 rfl rfl ?_
      refine r_al aX4_state_42 rfl ?_
      refine r_gI aX4_state_43 rfl rfl (v := nI σ.1.1) (Eq.trans (by rw [si_o (by omega)]) hn2) ?_
      refine r_ki aX4_state_46 ?_
      refine r_iast aX4_state_47 rfl (by omega) ?_
      refine r_al aX4_state_48 rfl ?_
      refine r_getR aX4_state_49 rfl rfl ?_
      refine r_al aX4_state_52 rfl ?_
      refine r_gI aX4_state_53 rfl rfl (v := nI σ.1.1) (Eq.trans (by rw [si_o (by omega), si_o (by omega)]) hn2) ?_
      refine r_ki aX4_state_56 ?_
      refine r_iast aX4_state_57 rfl (by omega) ?_
      refine r_al aX4_state_58 rfl ?_
      refine r_dup aX4_state_59 rfl ?_
      refine r_gI aX4_state_60 rfl rfl (v := nI σ.1.1) (Eq.trans (by rw [si_o (by omega), si_o (by omega), si_o (by omega)]) hn2) ?_
      refine r_ki aX4_state_63 ?_
      refine r_iaddN aX4_state_64 ?_
      refine r_putI aX4_state_65 rfl rfl rfl ?_
      refine r_al aX4_state_68 rfl ?_
      refine r_gI aX4_state_69 rfl rfl (v := nI (σ.1.1 + 1)) (by rw [si_row, pk_us]) ?_
      refine r_ki aX4_state_72 ?_
      refine r_isubN aX4_state_73 (by omega) ?_
      refine r_iret hM aX4_state_74 rfl ⟨by rw [Nat.add_sub_cancel], ?_, ?_⟩
      · obtain ⟨a, b, c, d, g, i⟩ := f1
        have ar0 := hW.2.1 σ.1.1 (Nat.le_refl _)
        have pr : ∀ j, j ≠ 0 → (si (si (si (si h25 92 σ.1.1 x) 93 σ.1.1 (nI 0)) 96 σ.1.1 (nI 0)) 91 0 (nI (σ.1.1 + 1))).1 91 j = h25.1 91 j := fun j hj => by rw [si_row, pk_un hj, si_o (by omega), si_o (by omega), si_o (by omega)]
        have po : ∀ y, y ≠ 91 → y ≠ 92 → y ≠ 93 → y ≠ 96 → (si (si (si (si h25 92 σ.1.1 x) 93 σ.1.1 (nI 0)) 96 σ.1.1 (nI 0)) 91 0 (nI (σ.1.1 + 1))).1 y = h25.1 y := fun y h1 h2 h3 h4 => by rw [si_o h1, si_o h4, si_o h3, si_o h2]
        refine ⟨⟨by rw [si_row, pk_us]; rfl, fun s hs => ?_, fun s hs => ?_, fun s hs j p hp => ?_, fun s hs => ?_, fun s hs => ?_⟩, by rw [pr 7 (by omega)]; exact f2, by rw [pr 8 (by omega)]; exact f3, ?_, fun k hk => ?_, ?_⟩
        · have hs : s < σ.1.1 + 1 := hs
          rw [si_o (by omega), si_o (by omega), si_o (by omega)]
          show _ = oI (va_up σ.1.2.1 σ.1.1 (inN x 8) s)
          by_cases e : s = σ.1.1
          · subst e; rw [si_row, pk_us, mu_self]; exact hx
          · rw [si_row, pk_un e, mu_ne e]; exact b s (by show s < σ.1.1; omega)
        · have hs : s < σ.1.1 + 1 := hs
          rw [si_o (by omega), si_o (by omega)]
          show _ = nI (σ.1.2.2.1 s).length
          by_cases e : s = σ.1.1
          · subst e; rw [si_row, pk_us, ar0]; rfl
          · rw [si_row, pk_un e, si_o (by omega)]; exact c s (by show s < σ.1.1; omega)
        · have hs : s < σ.1.1 + 1 := hs
          have hp : (σ.1.2.2.1 s)[j]? = some p := hp
          rw [po 94 (by omega) (by omega) (by omega) (by omega), po 95 (by omega) (by omega) (by omega) (by omega)]
          by_cases e : s = σ.1.1
          · subst e; rw [ar0] at hp; simp at hp
          · exact d s (by show s < σ.1.1; omega) j p hp
        · have hs : s < σ.1.1 + 1 := hs
          rw [si_o (by omega)]
          show _ = nI (tot (σ.1.2.2.1 s))
          by_cases e : s = σ.1.1
          · subst e; rw [si_row, pk_us, ar0]; rfl
          · rw [si_row, pk_un e, si_o (by omega), si_o (by omega)]; exact g s (by show s < σ.1.1; omega)
        · have hs : s < σ.1.1 + 1 := hs
          rw [po 97 (by omega) (by omega) (by omega) (by omega), q4 s (by omega)]; rfl
        · exact f4.cong (fun y h1 h2 => ⟨po y (by omega) (by omega) (by omega) (by omega), rfl⟩)
        · exact (f5 k hk).cong (fun y h1 h2 => ⟨po y (by omega) (by omega) (by omega) (by omega), rfl⟩)
        · exact ⟨false, by rw [pr 18 (by omega)]; exact q1, fun z => by cases z⟩
      · exact (((((q5.mono (fun a z => by omega)).tr (Fr.si (by omega))).tr (Fr.si (by omega))).tr (Fr.si (by omega))).tr (Fr.si (by omega)))
    · -- to 21
      refine r_ki aX4_state_21 ?_
      exact r_iret hM aX4_state_23 rfl (by unfold fState; rw [if_neg ((in_O Q4.2).1 c7).2, if_pos (by clear Q4; omega)]; exact ⟨rfl, C, Fr.rf⟩)
  · -- to 10
    refine r_ki aX4_state_10 ?_
    exact r_iret hM aX4_state_11 rfl (by unfold fState; rw [if_pos ((in_O Q4.2).2 c7)]; exact ⟨rfl, C, Fr.rf⟩)
theorem K_X4_arrow {x y z : Int32} (S : SI σ) (C : MRep h σ) : Con ad mX4_arrow [.ref (ad 91), .int x, .int y, .int z] h (qI fun r h' => r = (fArrow σ x y z).1 ∧ MRep h' (fArrow σ x y z).2 ∧ Fr (fun a => 91 ≤ a) h h') := by
  have hW := S.ww
  have h20 := hW.n
  have bad : fArrow σ x y z = (-1, σ) → (-1 : Int32) = (fArrow σ x y z).1 ∧ MRep h (fArrow σ x y z).2 ∧ Fr (fun a => 91 ≤ a) h h := fun E => by rw [E]; exact ⟨rfl, C, Fr.rf⟩
  refine Con.mk vX4_arrow.1 vX4_arrow.2.2.2.2 [some (.ref (ad 91)), some (.int x), some (.int y), some (.int z), none] rfl (Nat.le_of_ble_eq_true rfl) (fun Y hM => ?_)
  refine r_al aX4_arrow_0 rfl ?_
  refine r_il aX4_arrow_1 rfl ?_
  refine r_VZ1 aX4_arrow_2 vX4_isState rfl (K_X4_isState hW C.1) (fun x2 h2 Q2 => ?_)
  rw [Q2.1]
  refine r_b_eq aX4_arrow_5 (fun c5 => ?_) (fun c5 => ?_)
  · -- to 36
    refine r_ki aX4_arrow_36 ?_
    exact r_iret hM aX4_arrow_37 rfl (bad (fArrow_b (Or.inl (fun s hs e => by rw [inN_no (Q2.2.symm.trans c5)] at hs; cases hs))))
  · -- to 8
    refine r_al aX4_arrow_8 rfl ?_
    refine r_il aX4_arrow_9 rfl ?_
    refine r_VZ1 aX4_arrow_10 vX4_isState rfl (K_X4_isState hW C.1) (fun x10 h10 Q10 => ?_)
    rw [Q10.1]
    refine r_b_eq aX4_arrow_13 (fun c13 => ?_) (fun c13 => ?_)
    · -- to 36
      refine r_ki aX4_arrow_36 ?_
      exact r_iret hM aX4_arrow_37 rfl (bad (fArrow_b (Or.inr (Or.inl (inN_no (Q10.2.symm.trans c13))))))
    · -- to 16
      obtain ⟨s, hs, rfl, hxs⟩ := inN_ex (by omega) (Q2.2.symm.trans c5)
      obtain ⟨t, ht, rfl, hyt⟩ := inN_ex (by omega) (Q10.2.symm.trans c13)
      have ho := C.1.2.1 s hs
      refine r_al aX4_arrow_16 rfl ?_
      refine r_getR aX4_arrow_17 rfl rfl ?_
      refine r_il aX4_arrow_20 rfl ?_
      refine r_xI aX4_arrow_21 rfl (by omega) ho ?_
      refine r_ki aX4_arrow_22 ?_
      refine r_c_ne aX4_arrow_23 (fun c23 => ?_) (fun c23 => ?_)
      · -- to 36
        refine r_ki aX4_arrow_36 ?_
        exact r_iret hM aX4_arrow_37 rfl (bad (fArrow_b (Or.inl (fun s' hs' => by rw [hxs] at hs'; cases hs'; obtain ⟨o, ho2⟩ := oI_some c23; rw [ho2]; exact fun q => by cases q))))
      · -- to 26
        refine r_il aX4_arrow_26 rfl ?_
        refine r_ki aX4_arrow_27 ?_
        refine r_ki aX4_arrow_28 ?_
        refine r_SZ3 aX4_arrow_30 vX4_in (K_X4_in) (fun x30 h30 Q30 => ?_)
        rw [Q30.1]
        refine r_b_ne aX4_arrow_33 (fun c33 => ?_) (fun c33 => ?_)
        · -- to 38
          obtain ⟨k, hk1, hk, rfl, hzk⟩ := (in_K Q30.2).1 c33
          have hout : σ.1.2.1 s = none := oI_none c23 (fun o ho => by have := (hW.2.2.1 s o ho).1; clear Q30; omega)
          clear Q30
          have hsum := C.1.2.2.2.2.1 s hs
          have htt := hW.tot s
          have E0 : fArrow σ (nI s) (nI t) (nI k) = if 16 < tot (σ.1.2.2.1 s) + k then (-3, σ) else (nI (tot (σ.1.2.2.1 s) + k), nwS σ σ.1.1 σ.1.2.1 (va_up σ.1.2.2.1 s (addA t k (σ.1.2.2.1 s)))) := by
            unfold fArrow
            rw [hxs, hyt, hzk]
            dsimp only
            rw [if_neg (fun q => q.elim (fun q => q hout) (fun q => by omega))]
          rw [E0] at hM
          clear E0 bad hzk hxs hyt Q2 Q10
          refine r_al aX4_arrow_38 rfl ?_
          refine r_getR aX4_arrow_39 rfl rfl ?_
          refine r_il aX4_arrow_42 rfl ?_
          refine r_xI aX4_arrow_43 rfl (by omega) hsum ?_
          refine r_il aX4_arrow_44 rfl ?_
          refine r_iaddN aX4_arrow_45 ?_
          refine r_ki aX4_arrow_46 ?_
          refine r_n_le aX4_arrow_48 (by omega) (by decide) (fun c48 => ?_) (fun c48 => ?_)
          · rw [if_neg (by omega)] at hM
            refine r_al aX4_arrow_54 rfl ?_
            refine r_VV0 aX4_arrow_55 vX4_forget rfl K_X4_forget (fun h55 Q55 => ?_)
            obtain ⟨f1, f2, f3, f4, f5⟩ := forgot hW C Q55
            obtain ⟨q1, q2, q3, q4, q5⟩ := Q55
            have F55 : Fr (fun a => 91 ≤ a) h h55 := q5.mono (fun a z => by omega)
            have hW1 : WW (σ.1.1, σ.1.2.1, σ.1.2.2.1, noW) := ⟨hW.1, hW.2.1, hW.2.2.1, hW.2.2.2.1, fun s t _ q => (by cases q), hW.2.2.2.2.2⟩
            have hlen := hW.len s
            have hAW := hW.2.2.2.1 s
            have hln := hAW.len
            have hsum2 : h55.1 96 s = nI (tot (σ.1.2.2.1 s)) := f1.2.2.2.2.1 s hs
            have harr : h55.1 93 s = nI (σ.1.2.2.1 s).length := f1.2.2.1 s hs
            have hit : ∀ (i : Nat) (p : Nat × Nat), (σ.1.2.2.1 s)[i]? = some p → h55.1 94 (20 * s + i) = nI p.1 ∧ h55.1 95 (20 * s + i) = nI p.2 := fun i p hp => f1.2.2.2.1 s hs i p hp
            have tA := addA_tot t k (σ.1.2.2.1 s)
            have mk : ∀ h' : Mem, MW h' (σ.1.1, σ.1.2.1, va_up σ.1.2.2.1 s (addA t k (σ.1.2.2.1 s)), noW) → (∀ j, h'.1 91 j = h55.1 91 j) → h'.1 98 = h55.1 98 → MRep h' (nwS σ σ.1.1 σ.1.2.1 (va_up σ.1.2.2.1 s (addA t k (σ.1.2.2.1 s)))) := by
              intro h' m1 m2 m3
              exact ⟨m1, (m2 7).trans f2, (m2 8).trans f3, by show h'.1 98 0 = _; rw [m3]; exact f4, fun k hk => by show h'.1 98 (1 + k) = _; rw [m3]; exact f5 k hk, ⟨false, (m2 18).trans q1, fun z => by cases z⟩⟩
            refine r_al aX4_arrow_58 rfl ?_
            refine r_il aX4_arrow_59 rfl ?_
            refine r_il aX4_arrow_60 rfl ?_
            refine r_VI2 aX4_arrow_61 vX4_arrowOf rfl (K_X4_arrowOf hW1 f1 hs (by omega)) (fun x61 h61 Q61 => ?_)
            rw [Q61.1, Q61.2]
            dsimp only
            cases hix : aIx t (σ.1.2.2.1 s) 0 with
            | some i =>
              obtain ⟨-, i1, i2⟩ := aIx_wt t _ 0 i hix
              rw [Nat.sub_zero] at i2
              have eA : addA t k (σ.1.2.2.1 s) = (σ.1.2.2.1 s).set i (t, wt t (σ.1.2.2.1 s) + k) := aIx_addA t k _ 0 i hix
              have e95 := (hit i _ i2).2
              refine r_ti (v := nI (20 * s + i)) rfl ?_
              refine r_is4 aX4_arrow_64 rfl ?_
              refine r_il aX4_arrow_66 rfl ?_
              refine r_ki aX4_arrow_68 ?_
              refine r_c_ne aX4_arrow_69 (fun c69 => ?_) (fun c69 => absurd c69 (fun z => nI_pos (n := 20 * s + i) (by omega) (by rw [z]; decide)))
              refine r_al aX4_arrow_111 rfl ?_
              refine r_getR aX4_arrow_112 rfl rfl ?_
              refine r_il aX4_arrow_115 rfl ?_
              refine r_dup2 aX4_arrow_117 rfl rfl ?_
              refine r_xI aX4_arrow_118 rfl (by omega) e95 ?_
              refine r_il aX4_arrow_119 rfl ?_
              refine r_iaddN aX4_arrow_120 ?_
              refine r_iast aX4_arrow_121 rfl (by omega) ?_
              refine r_al aX4_arrow_122 rfl ?_
              refine r_getR aX4_arrow_123 rfl rfl ?_
              refine r_il aX4_arrow_126 rfl ?_
              refine r_dup2 aX4_arrow_127 rfl rfl ?_
              refine r_xI aX4_arrow_128 rfl (by omega) (v := nI (tot (σ.1.2.2.1 s))) (Eq.trans (by rw [si_o (by omega)]) hsum2) ?_
              refine r_il aX4_arrow_129 rfl ?_
              refine r_iaddN aX4_arrow_130 ?_
              refine r_iast aX4_arrow_131 rfl (by omega) ?_
              refine r_al aX4_arrow_132 rfl ?_
              refine r_getR aX4_arrow_133 rfl rfl ?_
              refine r_il aX4_arrow_136 rfl ?_
              refine r_xI aX4_arrow_137 rfl (by omega) (v := nI (tot (σ.1.2.2.1 s) + k)) (by rw [si_row, pk_us]) ?_
              refine r_iret hM aX4_arrow_138 rfl ⟨rfl, mk _ (f1.arrow (s := s) (L := addA t k (σ.1.2.2.1 s)) hW1 (by rw [eA, List.length_set]; exact hlen) ?_ ?_ ?_ ?_ ?_ ?_ ?_ ?_ ?_) ?_ ?_, ?_⟩
              · rw [si_o (by omega), si_o (by omega)]
              · rw [si_o (by omega), si_o (by omega)]
              · rw [si_o (by omega), si_o (by omega)]
              · rw [si_o (by omega), si_o (by omega), eA, List.length_set]; exact harr
              · intro x hx; rw [si_o (by omega), si_o (by omega)]
              · intro j p hp
                rw [eA] at hp
                rw [si_o (by omega), si_o (by omega), si_o (by omega)]
                by_cases e : j = i
                · subst e
                  rw [List.getElem?_set_self (by omega)] at hp
                  cases hp
                  rw [si_row, pk_us]
                  exact ⟨(hit j _ i2).1, rfl⟩
                · rw [List.getElem?_set_ne (Ne.symm e)] at hp
                  rw [si_row, pk_un (by omega)]
                  exact hit j p hp
              · intro x hx
                rw [si_o (by omega), si_o (by omega), si_o (by omega), si_row, pk_un (by omega)]
                exact ⟨rfl, rfl⟩
              · rw [si_row, pk_us, tA]
              · intro x hx; rw [si_row, pk_un hx, si_o (by omega)]
              · intro j; rw [si_o (by omega), si_o (by omega)]
              · rw [si_o (by omega), si_o (by omega)]
              · exact (F55.tr (Fr.si (by omega))).tr (Fr.si (by omega))
            | none =>
              have eA : addA t k (σ.1.2.2.1 s) = σ.1.2.2.1 s ++ [(t, k)] := aIx_addN t k _ 0 hix
              refine r_ti (v := -1) rfl ?_
              refine r_is4 aX4_arrow_64 rfl ?_
              refine r_il aX4_arrow_66 rfl ?_
              refine r_ki aX4_arrow_68 ?_
              refine r_c_ne aX4_arrow_69 (fun c69 => absurd rfl c69) (fun c69 => ?_)
              refine r_ki aX4_arrow_72 ?_
              refine r_il aX4_arrow_74 rfl ?_
              refine r_imulN aX4_arrow_75 ?_
              refine r_al aX4_arrow_76 rfl ?_
              refine r_getR aX4_arrow_77 rfl rfl ?_
              refine r_il aX4_arrow_80 rfl ?_
              refine r_xI aX4_arrow_81 rfl (by omega) harr ?_
              refine r_iaddN aX4_arrow_82 ?_
              refine r_is4 aX4_arrow_83 rfl ?_
              refine r_al aX4_arrow_85 rfl ?_
              refine r_getR aX4_arrow_86 rfl rfl ?_
              refine r_il aX4_arrow_89 rfl ?_
              refine r_il aX4_arrow_91 rfl ?_
              refine r_iast aX4_arrow_92 rfl (by omega) ?_
              refine r_al aX4_arrow_93 rfl ?_
              refine r_getR aX4_arrow_94 rfl rfl ?_
              refine r_il aX4_arrow_97 rfl ?_
              refine r_ki aX4_arrow_99 ?_
              refine r_iast aX4_arrow_100 rfl (by omega) ?_
              refine r_al aX4_arrow_101 rfl ?_
              refine r_getR aX4_arrow_102 rfl rfl ?_
              refine r_il aX4_arrow_105 rfl ?_
              refine r_dup2 aX4_arrow_106 rfl rfl ?_
              refine r_xI aX4_arrow_107 rfl (by omega) (v := nI (σ.1.2.2.1 s).length) (Eq.trans (by rw [si_o (by omega), si_o (by omega)]) harr) ?_
              refine r_ki aX4_arrow_108 ?_
              refine r_iaddN aX4_arrow_109 ?_
              refine r_iast aX4_arrow_110 rfl (by omega) ?_
              refine r_al aX4_arrow_111 rfl ?_
              refine r_getR aX4_arrow_112 rfl rfl ?_
              refine r_il aX4_arrow_115 rfl ?_
              refine r_dup2 aX4_arrow_117 rfl rfl ?_
              refine r_xI aX4_arrow_118 rfl (by omega) (v := nI 0) (by rw [si_o (by omega), si_row, pk_us]) ?_
              refine r_il aX4_arrow_119 rfl ?_
              refine r_iaddN aX4_arrow_120 ?_
              refine r_iast aX4_arrow_121 rfl (by omega) ?_
              refine r_al aX4_arrow_122 rfl ?_
              refine r_getR aX4_arrow_123 rfl rfl ?_
              refine r_il aX4_arrow_126 rfl ?_
              refine r_dup2 aX4_arrow_127 rfl rfl ?_
              refine r_xI aX4_arrow_128 rfl (by omega) (v := nI (tot (σ.1.2.2.1 s))) (Eq.trans (by rw [si_o (by omega), si_o (by omega), si_o (by omega), si_o (by omega)]) hsum2) ?_
              refine r_il aX4_arrow_129 rfl ?_
              refine r_iaddN aX4_arrow_130 ?_
              refine r_iast aX4_arrow_131 rfl (by omega) ?_
              refine r_al aX4_arrow_132 rfl ?_
              refine r_getR aX4_arrow_133 rfl rfl ?_
              refine r_il aX4_arrow_136 rfl ?_
              refine r_xI aX4_arrow_137 rfl (by omega) (v := nI (tot (σ.1.2.2.1 s) + k)) (by rw [si_row, pk_us]) ?_
              refine r_iret hM aX4_arrow_138 rfl ⟨rfl, mk _ (f1.arrow (s := s) (L := addA t k (σ.1.2.2.1 s)) hW1 (by rw [eA, List.length_append, List.length_singleton]; omega) ?_ ?_ ?_ ?_ ?_ ?_ ?_ ?_ ?_) ?_ ?_, ?_⟩
              · rw [si_o (by omega), si_o (by omega), si_o (by omega), si_o (by omega), si_o (by omega)]
              · rw [si_o (by omega), si_o (by omega), si_o (by omega), si_o (by omega), si_o (by omega)]
              · rw [si_o (by omega), si_o (by omega), si_o (by omega), si_o (by omega), si_o (by omega)]
              · rw [si_o (by omega), si_o (by omega), si_row, pk_us, eA, List.length_append, List.length_singleton]
              · intro x hx; rw [si_o (by omega), si_o (by omega), si_row, pk_un hx, si_o (by omega), si_o (by omega)]
              · intro j p hp
                rw [eA] at hp
                have a94 : ∀ j, (si (si (si (si (si h55 94 (20 * s + (σ.1.2.2.1 s).length) (nI t)) 95 (20 * s + (σ.1.2.2.1 s).length) (nI 0)) 93 s (nI ((σ.1.2.2.1 s).length + 1))) 95 (20 * s + (σ.1.2.2.1 s).length) (nI (0 + k))) 96 s (nI (tot (σ.1.2.2.1 s) + k))).1 94 j = upd (h55.1 94) (20 * s + (σ.1.2.2.1 s).length) (nI t) j := fun j => by rw [si_o (by omega), si_o (by omega), si_o (by omega), si_o (by omega), si_row]
                have a95 : ∀ j, (si (si (si (si (si h55 94 (20 * s + (σ.1.2.2.1 s).length) (nI t)) 95 (20 * s + (σ.1.2.2.1 s).length) (nI 0)) 93 s (nI ((σ.1.2.2.1 s).length + 1))) 95 (20 * s + (σ.1.2.2.1 s).length) (nI (0 + k))) 96 s (nI (tot (σ.1.2.2.1 s) + k))).1 95 j = upd (upd (h55.1 95) (20 * s + (σ.1.2.2.1 s).length) (nI 0)) (20 * s + (σ.1.2.2.1 s).length) (nI (0 + k)) j := fun j => by rw [si_o (by omega), si_row, si_o (by omega), si_row, si_o (by omega)]
                rw [a94, a95]
                by_cases e : j < (σ.1.2.2.1 s).length
                · rw [List.getElem?_append_left e] at hp
                  rw [pk_un (by omega), pk_un (by omega), pk_un (by omega)]
                  exact hit j p hp
                · rw [List.getElem?_append_right (by omega)] at hp
                  have h0 : j - (σ.1.2.2.1 s).length < 1 := (List.getElem?_eq_some_iff.mp hp).1
                  have h9 : j = (σ.1.2.2.1 s).length := by omega
                  subst h9
                  rw [Nat.sub_self] at hp
                  cases hp
                  rw [pk_us, pk_us, Nat.zero_add]
                  exact ⟨rfl, rfl⟩
              · intro x hx
                constructor
                · rw [si_o (by omega), si_o (by omega), si_o (by omega), si_o (by omega), si_row, pk_un (by omega)]
                · rw [si_o (by omega), si_row, pk_un (by omega), si_o (by omega), si_row, pk_un (by omega), si_o (by omega)]
              · rw [si_row, pk_us, tA]
              · intro x hx; rw [si_row, pk_un hx, si_o (by omega), si_o (by omega), si_o (by omega), si_o (by omega)]
              · intro j; rw [si_o (by omega), si_o (by omega), si_o (by omega), si_o (by omega), si_o (by omega)]
              · rw [si_o (by omega), si_o (by omega), si_o (by omega), si_o (by omega), si_o (by omega)]
              · exact ((((F55.tr (Fr.si (by omega))).tr (Fr.si (by omega))).tr (Fr.si (by omega))).tr (Fr.si (by omega))).tr (Fr.si (by omega))
          · rw [if_pos (by omega)] at hM
            refine r_ki aX4_arrow_51 ?_
            exact r_iret hM aX4_arrow_53 rfl ⟨rfl, C, Fr.rf⟩
        · -- to 36
          refine r_ki aX4_arrow_36 ?_
          exact r_iret hM aX4_arrow_37 rfl (bad (fArrow_b (Or.inr (Or.inr ((in_K Q30.2).2 c33)))))
theorem MK.law {w w' : Wk} {h h' : Mem} (H : MK h w) (f : ∀ a, a ≠ 97 → h'.1 a = h.1 a) (e : w'.2.2.1 = w.2.2.1) (e1 : w'.2.1 = w.2.1) (e0 : w'.1 = w.1) : MK h' w' := by
  obtain ⟨lk, a, b⟩ := H
  exact ⟨lk, by rw [f 91 (by omega)]; exact a, fun z => ⟨fun s hs => by rw [f 107 (by omega), rm_law e e1 e0]; exact (b z).1 s (e0 ▸ hs), fun s hs => by rw [f 108 (by omega), su_law e e1 e0]; exact (b z).2 s (e0 ▸ hs)⟩⟩
theorem setLaw_mrep {s : Nat} {t : Option Nat} (C : MRep h σ) : MRep (si h 97 s (oI t)) (setLaw σ s t) := by
  have f : ∀ a, a ≠ 97 → (si h 97 s (oI t)).1 a = h.1 a := fun a z => si_o z
  obtain ⟨⟨a, b, c, d, g, i⟩, c2, c3, c4, c5, c6⟩ := C
  refine ⟨⟨by rw [f 91 (by omega)]; exact a, fun s hs => by rw [f 92 (by omega)]; exact b s hs, fun s hs => by rw [f 93 (by omega)]; exact c s hs, fun s hs j p hp => by rw [f 94 (by omega), f 95 (by omega)]; exact d s hs j p hp, fun s hs => by rw [f 96 (by omega)]; exact g s hs, fun s' hs => ?_⟩, by rw [f 91 (by omega)]; exact c2, by rw [f 91 (by omega)]; exact c3, c4.cong (fun a h1 h2 => ⟨f a (by omega), rfl⟩), fun k hk => (c5 k hk).cong (fun a h1 h2 => ⟨f a (by omega), rfl⟩), c6.law f rfl rfl rfl⟩
  show (si h 97 s (oI t)).1 97 s' = oI (va_up σ.1.2.2.2 s t s')
  by_cases e : s' = s
  · subst e; rw [si_row, pk_us, mu_self]
  · rw [si_row, pk_un e, mu_ne e]; exact i s' hs
theorem K_X4_law {x y : Int32} (S : SI σ) (C : MRep h σ) : Con ad mX4_law [.ref (ad 91), .int x, .int y] h (qI fun r h' => r = (fLaw σ x y).1 ∧ MRep h' (fLaw σ x y).2 ∧ Fr (fun a => 91 ≤ a) h h') := by
  have hW := S.ww
  have h20 := hW.n
  have arw : ∀ x y, x < σ.1.1 → y < σ.1.1 → (aIx y (σ.1.2.2.1 x) 0 = none ∧ wt y (σ.1.2.2.1 x) = 0) ∨ ∃ i, i < 16 ∧ aIx y (σ.1.2.2.1 x) 0 = some i ∧ h.1 95 (20 * x + i) = nI (wt y (σ.1.2.2.1 x)) ∧ 0 < wt y (σ.1.2.2.1 x) := by
    intro x y hx hy
    cases hz : aIx y (σ.1.2.2.1 x) 0 with
    | none => exact Or.inl ⟨rfl, (aIx_none y _ 0 hz).1⟩
    | some i =>
      right
      obtain ⟨-, i1, i2⟩ := aIx_wt y _ 0 i hz
      rw [Nat.sub_zero] at i2
      have := hW.len x
      exact ⟨i, by omega, rfl, (C.1.2.2.2.1 x hx i _ i2).2, ((hW.2.2.2.1 x).1 _ (List.mem_of_getElem? i2)).2⟩
  refine Con.mk vX4_law.1 vX4_law.2.2.2.2 [some (.ref (ad 91)), some (.int x), some (.int y), none, none, none] rfl (Nat.le_of_ble_eq_true rfl) (fun Y hM => ?_)
  refine r_al aX4_law_0 rfl ?_
  refine r_il aX4_law_1 rfl ?_
  refine r_VZ1 aX4_law_2 vX4_isState rfl (K_X4_isState hW C.1) (fun x2 h2 Q2 => ?_)
  rw [Q2.1]
  refine r_b_eq aX4_law_5 (fun c5 => ?_) (fun c5 => ?_)
  · -- to 31
    refine r_ki aX4_law_31 ?_
    refine r_iret hM aX4_law_32 rfl ?_
    have E : fLaw σ x y = (-1, σ) := by
      unfold fLaw
      rw [inN_no (Q2.2.symm.trans c5)]
    rw [E]
    exact ⟨rfl, C, Fr.rf⟩
  · -- to 8
    obtain ⟨s, hs, rfl, hxs⟩ := inN_ex (by omega) (Q2.2.symm.trans c5)
    clear Q2
    have ho := C.1.2.1 s hs
    have E0 : fLaw σ (nI s) y = if σ.1.2.1 s ≠ none then (-1, σ) else if y = -1 then (nI 1, setLaw σ s none) else match inN y σ.1.1 with
        | none => (-1, σ)
        | some t => if lawB σ.1 s t then (nI 1, setLaw σ s (some t)) else (-2, σ) := by
      unfold fLaw
      rw [hxs]
      rfl
    rw [E0] at hM
    clear E0 hxs
    by_cases hy : y = -1
    · subst hy
      refine r_il aX4_law_8 rfl ?_
      refine r_ki aX4_law_9 ?_
      refine r_c_eq aX4_law_10 (fun c10 => ?_) (fun c10 => absurd rfl c10)
      refine r_al aX4_law_21 rfl ?_
      refine r_getR aX4_law_22 rfl rfl ?_
      refine r_il aX4_law_25 rfl ?_
      refine r_xI aX4_law_26 rfl (by omega) ho ?_
      refine r_ki aX4_law_27 ?_
      refine r_c_eq aX4_law_28 (fun c28 => ?_) (fun c28 => ?_)
      · have hz : σ.1.2.1 s = none := oI_none c28 (fun o ho => by have := (hW.2.2.1 s o ho).1; omega)
        rw [if_neg (fun q => q hz), if_pos rfl] at hM
        refine r_il aX4_law_33 rfl ?_
        refine r_ki aX4_law_34 ?_
        refine r_c_eq aX4_law_35 (fun c35 => ?_) (fun c35 => absurd rfl c35)
        refine r_al aX4_law_168 rfl ?_
        refine r_getR aX4_law_169 rfl rfl ?_
        refine r_il aX4_law_172 rfl ?_
        refine r_il aX4_law_173 rfl ?_
        refine r_iast aX4_law_174 rfl (by omega) ?_
        refine r_ki aX4_law_175 ?_
        exact r_iret hM aX4_law_176 rfl ⟨rfl, setLaw_mrep (t := none) C, Fr.si (P := fun a => 91 ≤ a) (by omega)⟩
      · obtain ⟨o, hz⟩ := oI_some c28
        rw [if_pos (by rw [hz]; exact fun q => by cases q)] at hM
        refine r_ki aX4_law_31 ?_
        exact r_iret hM aX4_law_32 rfl ⟨rfl, C, Fr.rf⟩
    · rw [if_neg hy] at hM
      refine r_il aX4_law_8 rfl ?_
      refine r_ki aX4_law_9 ?_
      refine r_c_eq aX4_law_10 (fun c10 => absurd c10 hy) (fun c10 => ?_)
      refine r_al aX4_law_13 rfl ?_
      refine r_il aX4_law_14 rfl ?_
      refine r_VZ1 aX4_law_15 vX4_isState rfl (K_X4_isState hW C.1) (fun x15 h15 Q15 => ?_)
      rw [Q15.1]
      refine r_b_eq aX4_law_18 (fun c18 => ?_) (fun c18 => ?_)
      · rw [inN_no (Q15.2.symm.trans c18)] at hM
        have hM : IsM Y ad (qI fun r h' => r = (if σ.1.2.1 s ≠ none then ((-1 : Int32), σ) else (-1, σ)).1 ∧ MRep h' (if σ.1.2.1 s ≠ none then ((-1 : Int32), σ) else (-1, σ)).2 ∧ Fr (fun a => 91 ≤ a) h h') := hM
        rw [ite_self] at hM
        refine r_ki aX4_law_31 ?_
        exact r_iret hM aX4_law_32 rfl ⟨rfl, C, Fr.rf⟩
      · obtain ⟨t, ht, rfl, hyt⟩ := inN_ex (by omega) (Q15.2.symm.trans c18)
        clear Q15
        rw [hyt] at hM
        dsimp only at hM
        refine r_al aX4_law_21 rfl ?_
        refine r_getR aX4_law_22 rfl rfl ?_
        refine r_il aX4_law_25 rfl ?_
        refine r_xI aX4_law_26 rfl (by omega) ho ?_
        refine r_ki aX4_law_27 ?_
        refine r_c_eq aX4_law_28 (fun c28 => ?_) (fun c28 => ?_)
        · have hz : σ.1.2.1 s = none := oI_none c28 (fun o ho => by have := (hW.2.2.1 s o ho).1; omega)
          rw [if_neg (fun q => q hz)] at hM
          have hts := hW.tot s
          have htt := hW.tot t
          have s1 := C.1.2.2.2.2.1 s hs
          have s2 := C.1.2.2.2.2.1 t ht
          have w1 := hW.wt s t
          have w2 := hW.wt t s
          have m1 : ∀ n, n < 400 → nI n ≠ -1 := fun n hn z => nI_pos (n := n) (by omega) (by rw [z]; decide)
          refine r_il aX4_law_33 rfl ?_
          refine r_ki aX4_law_34 ?_
          refine r_c_eq aX4_law_35 (fun c35 => absurd c35 hy) (fun c35 => ?_)
          refine r_al aX4_law_38 rfl ?_
          refine r_il aX4_law_39 rfl ?_
          refine r_il aX4_law_40 rfl ?_
          refine r_VI2 aX4_law_41 vX4_arrowOf rfl (K_X4_arrowOf hW C.1 hs (by omega)) (fun x41 h41 Q41 => ?_)
          rw [Q41.1, Q41.2]
          refine r_is3 aX4_law_44 rfl ?_
          refine r_al aX4_law_45 rfl ?_
          refine r_il aX4_law_46 rfl ?_
          refine r_il aX4_law_47 rfl ?_
          refine r_VI2 aX4_law_48 vX4_arrowOf rfl (K_X4_arrowOf hW C.1 ht (by omega)) (fun x48 h48 Q48 => ?_)
          rw [Q48.1, Q48.2]
          refine r_is4 aX4_law_51 rfl ?_
          refine r_il aX4_law_53 rfl ?_
          refine r_ki aX4_law_54 ?_
          have no : ∀ (A B : Int32), ¬ LawOk σ.1 s t → G Y ad mX4_law 86 [some (.ref (ad 91)), some (.int (nI s)), some (.int (nI t)), some (.int A), some (.int B), none] [] h := by
            intro A B hn
            rw [lawB_f hn, if_neg (by decide)] at hM
            refine r_ki aX4_law_86 ?_
            exact r_iret hM aX4_law_88 rfl ⟨rfl, C, Fr.rf⟩
          have no2 : ∀ (A B : Int32), ¬ LawOk σ.1 s t → G Y ad mX4_law 158 [some (.ref (ad 91)), some (.int (nI s)), some (.int (nI t)), some (.int A), some (.int B), none] [.int (nI 1)] h := by
            intro A B hn
            rw [lawB_f hn, if_neg (by decide)] at hM
            refine r_is5 aX4_law_158 rfl ?_
            refine r_il aX4_law_160 rfl ?_
            refine r_nz_eq aX4_law_162 (by omega) (fun c162 => by omega) (fun c162 => ?_)
            refine r_ki aX4_law_165 ?_
            exact r_iret hM aX4_law_167 rfl ⟨rfl, C, Fr.rf⟩
          have yes : ∀ (A B : Int32), LawOk σ.1 s t → G Y ad mX4_law 158 [some (.ref (ad 91)), some (.int (nI s)), some (.int (nI t)), some (.int A), some (.int B), none] [.int (nI 0)] h := by
            intro A B hok
            rw [lawB_iff.mpr hok, if_pos rfl] at hM
            refine r_is5 aX4_law_158 rfl ?_
            refine r_il aX4_law_160 rfl ?_
            refine r_nz_eq aX4_law_162 (by omega) (fun c162 => ?_) (fun c162 => by omega)
            refine r_al aX4_law_168 rfl ?_
            refine r_getR aX4_law_169 rfl rfl ?_
            refine r_il aX4_law_172 rfl ?_
            refine r_il aX4_law_173 rfl ?_
            refine r_iast aX4_law_174 rfl (by omega) ?_
            refine r_ki aX4_law_175 ?_
            exact r_iret hM aX4_law_176 rfl ⟨rfl, setLaw_mrep (t := some t) C, Fr.si (P := fun a => 91 ≤ a) (by omega)⟩
          rcases arw s t hs ht with ⟨a1, a2⟩ | ⟨i, i16, a1, a2, a3⟩
          · rw [a1]
            refine r_c_eq aX4_law_55 (fun c55 => ?_) (fun c55 => absurd rfl c55)
            refine no _ _ (fun z => ?_)
            unfold LawOk at z
            split at z
            · next e => subst e; omega
            · omega
          · rw [a1]
            refine r_c_eq aX4_law_55 (fun c55 => absurd c55 (m1 (20 * s + i) (by omega))) (fun c55 => ?_)
            refine r_il aX4_law_58 rfl ?_
            refine r_ki aX4_law_60 ?_
            rcases arw t s ht hs with ⟨b1, b2⟩ | ⟨j, j16, b1, b2, b3⟩
            · rw [b1]
              refine r_c_eq aX4_law_61 (fun c61 => ?_) (fun c61 => absurd rfl c61)
              refine no _ _ (fun z => ?_)
              unfold LawOk at z
              split at z
              · next e => subst e; omega
              · omega
            · rw [b1]
              refine r_c_eq aX4_law_61 (fun c61 => absurd c61 (m1 (20 * t + j) (by omega))) (fun c61 => ?_)
              refine r_al aX4_law_64 rfl ?_
              refine r_getR aX4_law_65 rfl rfl ?_
              refine r_il aX4_law_68 rfl ?_
              refine r_xI aX4_law_69 rfl (by omega) s1 ?_
              refine r_ki aX4_law_70 ?_
              refine r_n_lt aX4_law_72 (by omega) (by omega) (fun c72 => ?_) (fun c72 => ?_)
              · refine no _ _ (fun z => ?_)
                unfold LawOk at z
                split at z
                · omega
                · omega
              · refine r_al aX4_law_75 rfl ?_
                refine r_getR aX4_law_76 rfl rfl ?_
                refine r_il aX4_law_79 rfl ?_
                refine r_xI aX4_law_80 rfl (by omega) s2 ?_
                refine r_ki aX4_law_81 ?_
                refine r_n_ge aX4_law_83 (by omega) (by omega) (fun c83 => ?_) (fun c83 => ?_)
                · refine r_il aX4_law_89 rfl ?_
                  refine r_il aX4_law_90 rfl ?_
                  refine r_n_ne aX4_law_91 (by omega) (by omega) (fun c91 => ?_) (fun c91 => ?_)
                  · refine r_al aX4_law_113 rfl ?_
                    refine r_il aX4_law_114 rfl ?_
                    refine r_il aX4_law_115 rfl ?_
                    refine r_VI2 aX4_law_116 vX4_arrowOf rfl (K_X4_arrowOf hW C.1 hs (by omega)) (fun x116 h116 Q116 => ?_)
                    rw [Q116.1, Q116.2]
                    refine r_ki aX4_law_119 ?_
                    rcases arw s s hs hs with ⟨d1, d2⟩ | ⟨i2, i216, d1, d2, d3⟩
                    · rw [d1]
                      refine r_c_ne aX4_law_120 (fun c120 => absurd rfl c120) (fun c120 => ?_)
                      refine r_al aX4_law_123 rfl ?_
                      refine r_il aX4_law_124 rfl ?_
                      refine r_il aX4_law_125 rfl ?_
                      refine r_VI2 aX4_law_126 vX4_arrowOf rfl (K_X4_arrowOf hW C.1 ht (by omega)) (fun x126 h126 Q126 => ?_)
                      rw [Q126.1, Q126.2]
                      refine r_ki aX4_law_129 ?_
                      rcases arw t t ht ht with ⟨g1, g2⟩ | ⟨i3, i316, g1, g2, g3⟩
                      · rw [g1]
                        refine r_c_ne aX4_law_130 (fun c130 => absurd rfl c130) (fun c130 => ?_)
                        have hab : wt t (σ.1.2.2.1 s) * wt s (σ.1.2.2.1 t) ≤ 16 * 16 := Nat.mul_le_mul w1 w2
                        refine r_al aX4_law_133 rfl ?_
                        refine r_getR aX4_law_134 rfl rfl ?_
                        refine r_il aX4_law_137 rfl ?_
                        refine r_xI (j := 20 * s + i) aX4_law_138 rfl (by omega) a2 ?_
                        refine r_al aX4_law_139 rfl ?_
                        refine r_getR aX4_law_140 rfl rfl ?_
                        refine r_il aX4_law_143 rfl ?_
                        refine r_xI (j := 20 * t + j) aX4_law_145 rfl (by omega) b2 ?_
                        refine r_imulN aX4_law_146 ?_
                        refine r_ki aX4_law_147 ?_
                        refine r_n_ne aX4_law_150 (by omega) (by omega) (fun c150 => ?_) (fun c150 => ?_)
                        · refine r_ki aX4_law_157 ?_
                          refine yes _ _ ?_
                          unfold LawOk
                          rw [if_neg (by omega)]
                          exact ⟨by omega, by omega, a3, b3, by omega, d2, g2⟩
                        · refine r_ki aX4_law_153 ?_
                          refine r_go aX4_law_154 ?_
                          refine no2 _ _ (fun z => ?_)
                          unfold LawOk at z
                          rw [if_neg (by omega)] at z
                          omega
                      · rw [g1]
                        refine r_c_ne aX4_law_130 (fun c130 => ?_) (fun c130 => absurd c130 (m1 (20 * t + i3) (by omega)))
                        refine r_ki aX4_law_153 ?_
                        refine r_go aX4_law_154 ?_
                        refine no2 _ _ (fun z => ?_)
                        unfold LawOk at z
                        rw [if_neg (by omega)] at z
                        omega
                    · rw [d1]
                      refine r_c_ne aX4_law_120 (fun c120 => ?_) (fun c120 => absurd c120 (m1 (20 * s + i2) (by omega)))
                      refine r_ki aX4_law_153 ?_
                      refine r_go aX4_law_154 ?_
                      refine no2 _ _ (fun z => ?_)
                      unfold LawOk at z
                      rw [if_neg (by omega)] at z
                      omega
                  · rw [c91] at a2 a3 w1
                    refine r_al aX4_law_94 rfl ?_
                    refine r_getR aX4_law_95 rfl rfl ?_
                    refine r_il aX4_law_98 rfl ?_
                    refine r_xI (j := 20 * s + i) aX4_law_99 rfl (by omega) a2 ?_
                    refine r_ki aX4_law_100 ?_
                    refine r_n_ne aX4_law_102 (by omega) (by omega) (fun c102 => ?_) (fun c102 => ?_)
                    · refine r_ki aX4_law_109 ?_
                      refine r_go aX4_law_110 ?_
                      refine yes _ _ ?_
                      unfold LawOk
                      rw [if_pos c91]
                      exact ⟨by omega, a3, by omega⟩
                    · refine r_ki aX4_law_105 ?_
                      refine r_go aX4_law_106 ?_
                      refine no2 _ _ (fun z => ?_)
                      unfold LawOk at z
                      rw [if_pos c91] at z
                      omega
                · refine no _ _ (fun z => ?_)
                  unfold LawOk at z
                  split at z
                  · next e => subst e; omega
                  · omega
        · obtain ⟨o, hz⟩ := oI_some c28
          rw [if_pos (by rw [hz]; exact fun q => by cases q)] at hM
          refine r_ki aX4_law_31 ?_
          exact r_iret hM aX4_law_32 rfl ⟨rfl, C, Fr.rf⟩
end MODEL9

section MODEL7
variable {ad : Nat → Nat} {h : Mem} {σ : Sta}
theorem tw_X4_told : decode mX4_told.2.1 1 = .ok (.tableswitch 105 0 4 #[35, 40, 60, 80, 100], 35) := by decide +kernel
theorem K_X4_given {x y z : Int32} (S : SI σ) (C : MRep h σ) : Con ad mX4_given [.ref (ad 91), .int x, .int y, .int z] h (qI fun r h' => r = fGiven σ x y z ∧ MRep h' σ ∧ Fr (fun a => 91 ≤ a) h h') := by
  have e0 := C.2.2.2.1.is
  refine Con.mk vX4_given.1 vX4_given.2.2.2.2 [some (.ref (ad 91)), some (.int x), some (.int y), some (.int z), none, none, none, none, none, none] rfl (Nat.le_of_ble_eq_true rfl) (fun Y hM => ?_)
  refine r_il aX4_given_0 rfl ?_
  refine r_SZ1 aX4_given_1 vX4_isSet (K_X4_isSet) (fun x1 h1 Q1 => ?_)
  rw [Q1.1]
  refine r_b_eq aX4_given_4 (fun c4 => ?_) (fun c4 => ?_)
  · -- to 23
    refine r_ki aX4_given_23 ?_
    exact r_iret hM aX4_given_24 rfl ⟨(fGiven_b (Or.inl (inN_no (Q1.2.symm.trans c4)))).symm, C, Fr.rf⟩
  · -- to 7
    refine r_il aX4_given_7 rfl ?_
    refine r_SZ1 aX4_given_8 vX4_isSet (K_X4_isSet) (fun x8 h8 Q8 => ?_)
    rw [Q8.1]
    refine r_b_eq aX4_given_11 (fun c11 => ?_) (fun c11 => ?_)
    · -- to 23
      refine r_ki aX4_given_23 ?_
      exact r_iret hM aX4_given_24 rfl ⟨(fGiven_b (Or.inr (Or.inl (inN_no (Q8.2.symm.trans c11))))).symm, C, Fr.rf⟩
    · -- to 14
      refine r_il aX4_given_14 rfl ?_
      refine r_ki aX4_given_15 ?_
      refine r_ki aX4_given_16 ?_
      refine r_SZ3 aX4_given_17 vX4_in (K_X4_in) (fun x17 h17 Q17 => ?_)
      rw [Q17.1]
      refine r_b_ne aX4_given_20 (fun c20 => ?_) (fun c20 => ?_)
      · -- to 25
        obtain ⟨a, -, -, ha⟩ := inN_ex (by decide) (Q1.2.symm.trans c4)
        obtain ⟨b, -, -, hb⟩ := inN_ex (by decide) (Q8.2.symm.trans c11)
        obtain ⟨d, hd, rfl, hd2⟩ := inN_ex (by decide) ((in_N (n := 1) (by decide) Q17.2).symm.trans c20)
        clear Q17
        refine r_al aX4_given_25 rfl ?_
        refine r_getR aX4_given_26 rfl rfl ?_
        refine r_ki aX4_given_29 ?_
        refine r_xZ aX4_given_30 rfl (by omega) e0 ?_
        refine r_b_ne aX4_given_31 (fun c31 => ?_) (fun c31 => ?_)
        · -- to 37
          obtain ⟨l, hl⟩ := Option.isSome_iff_exists.mp c31
          have E0 : fGiven σ x y (nI d) = if d = 0 then (if lo σ.1 l.2.2 (x &&& y) + hi σ.1 l.2.2 (y &&& (x ^^^ -1)) = 0 then nI 0 else ptA (lo σ.1 l.2.2 (x &&& y)) (lo σ.1 l.2.2 (x &&& y) + hi σ.1 l.2.2 (y &&& (x ^^^ -1))) false) else (if hi σ.1 l.2.2 (x &&& y) + lo σ.1 l.2.2 (y &&& (x ^^^ -1)) = 0 then nI 1073741824 else ptA (hi σ.1 l.2.2 (x &&& y)) (hi σ.1 l.2.2 (x &&& y) + lo σ.1 l.2.2 (y &&& (x ^^^ -1))) true) := by
            unfold fGiven
            rw [ha, hb, hd2]
            dsimp only
            rw [hl]
          rw [E0] at hM
          clear E0 ha hb hd2 Q1 Q8
          have LO1 := C.2.2.2.1
          rw [hl] at LO1
          obtain ⟨a0, a1, a2, a3⟩ := LO1
          have hI := (S.2.2.1 l hl).2
          have hIW := (hI.ix S.ww).iw
          have b1 := lohi S.ww hI (x &&& y)
          have b2 := lohi S.ww hI (y &&& (x ^^^ -1))
          have c0 := C.2.2.2.2.2
          by_cases hd0 : d = 0
          · rw [if_pos hd0] at hM
            subst hd0
            refine r_il aX4_given_37 rfl ?_
            refine r_il aX4_given_38 rfl ?_
            refine r_iand aX4_given_39 ?_
            refine r_is4 aX4_given_40 rfl ?_
            refine r_il aX4_given_42 rfl ?_
            refine r_il aX4_given_43 rfl ?_
            refine r_ki aX4_given_44 ?_
            refine r_ixor aX4_given_45 ?_
            refine r_iand aX4_given_46 ?_
            refine r_is5 aX4_given_47 rfl ?_
            refine r_il aX4_given_49 rfl ?_
            refine r_nz_ne aX4_given_50 (by omega) (fun c50 => absurd rfl c50) (fun c50 => ?_)
            refine r_al aX4_given_53 rfl ?_
            refine r_ki aX4_given_54 ?_
            refine r_il aX4_given_55 rfl ?_
            refine r_VL2 aX4_given_57 vX4_low rfl (K_X4_low (l := 0) S.ww C.1 c0 a3 (by omega) hIW) (fun x57 h57 Q57 => ?_)
            obtain ⟨q1, q2, q3⟩ := Q57
            rw [q1]
            refine r_go aX4_given_60 ?_
            refine r_ls6 aX4_given_70 rfl ?_
            refine r_ll aX4_given_72 rfl ?_
            refine r_il aX4_given_74 rfl ?_
            refine r_nz_ne aX4_given_75 (by omega) (fun c75 => absurd rfl c75) (fun c75 => ?_)
            refine r_al aX4_given_78 rfl ?_
            refine r_ki aX4_given_79 ?_
            refine r_il aX4_given_80 rfl ?_
            refine r_VL2 aX4_given_82 vX4_high rfl (K_X4_high (l := 0) S.ww (C.1.lk q3) q2 (a3.lk q3) (by omega) hIW) (fun x82 h82 Q82 => ?_)
            obtain ⟨t1, t2, t3⟩ := Q82
            rw [t1]
            have C2 := (C.lk q3 q2).lk t3 t2
            have F2 := q3.fr.tr t3.fr
            refine r_go aX4_given_85 ?_
            refine r_laddN aX4_given_95 ?_
            refine r_ls8 aX4_given_96 rfl ?_
            refine r_ll aX4_given_98 rfl ?_
            refine r_kl aX4_given_100 ?_
            refine r_m_ne aX4_given_101 aX4_given_102 (by omega) (by omega) (fun c101 => ?_) (fun c101 => ?_)
            · rw [if_neg c101] at hM
              refine r_ll aX4_given_118 rfl ?_
              refine r_ll aX4_given_120 rfl ?_
              refine r_il aX4_given_122 rfl ?_
              refine r_ki aX4_given_123 ?_
              refine r_n_ne aX4_given_124 (by omega) (by omega) (fun c124 => ?_) (fun c124 => by omega)
              refine r_ki aX4_given_131 ?_
              refine r_ti (v := bI false) rfl ?_
              refine r_SI3 aX4_given_132 vX4_part (K_X4_part (by omega) (by omega) (by omega)) (fun x132 h132 Q132 => ?_)
              rw [Q132.1, Q132.2]
              exact r_iret hM aX4_given_135 rfl ⟨rfl, C2, F2⟩
            · rw [if_pos c101] at hM
              refine r_il aX4_given_105 rfl ?_
              refine r_nz_ne aX4_given_106 (by omega) (fun c106 => absurd rfl c106) (fun c106 => ?_)
              refine r_ki aX4_given_109 ?_
              refine r_go aX4_given_110 ?_
              exact r_iret hM aX4_given_135 rfl ⟨rfl, C2, F2⟩
          · rw [if_neg hd0] at hM
            have hd1 : d = 1 := by omega
            subst hd1
            refine r_il aX4_given_37 rfl ?_
            refine r_il aX4_given_38 rfl ?_
            refine r_iand aX4_given_39 ?_
            refine r_is4 aX4_given_40 rfl ?_
            refine r_il aX4_given_42 rfl ?_
            refine r_il aX4_given_43 rfl ?_
            refine r_ki aX4_given_44 ?_
            refine r_ixor aX4_given_45 ?_
            refine r_iand aX4_given_46 ?_
            refine r_is5 aX4_given_47 rfl ?_
            refine r_il aX4_given_49 rfl ?_
            refine r_nz_ne aX4_given_50 (by omega) (fun c50 => ?_) (fun c50 => by omega)
            refine r_al aX4_given_63 rfl ?_
            refine r_ki aX4_given_64 ?_
            refine r_il aX4_given_65 rfl ?_
            refine r_VL2 aX4_given_67 vX4_high rfl (K_X4_high (l := 0) S.ww C.1 c0 a3 (by omega) hIW) (fun x67 h67 Q67 => ?_)
            obtain ⟨q1, q2, q3⟩ := Q67
            rw [q1]
            refine r_ls6 aX4_given_70 rfl ?_
            refine r_ll aX4_given_72 rfl ?_
            refine r_il aX4_given_74 rfl ?_
            refine r_nz_ne aX4_given_75 (by omega) (fun c75 => ?_) (fun c75 => by omega)
            refine r_al aX4_given_88 rfl ?_
            refine r_ki aX4_given_89 ?_
            refine r_il aX4_given_90 rfl ?_
            refine r_VL2 aX4_given_92 vX4_low rfl (K_X4_low (l := 0) S.ww (C.1.lk q3) q2 (a3.lk q3) (by omega) hIW) (fun x92 h92 Q92 => ?_)
            obtain ⟨t1, t2, t3⟩ := Q92
            rw [t1]
            have C2 := (C.lk q3 q2).lk t3 t2
            have F2 := q3.fr.tr t3.fr
            refine r_laddN aX4_given_95 ?_
            refine r_ls8 aX4_given_96 rfl ?_
            refine r_ll aX4_given_98 rfl ?_
            refine r_kl aX4_given_100 ?_
            refine r_m_ne aX4_given_101 aX4_given_102 (by omega) (by omega) (fun c101 => ?_) (fun c101 => ?_)
            · rw [if_neg c101] at hM
              refine r_ll aX4_given_118 rfl ?_
              refine r_ll aX4_given_120 rfl ?_
              refine r_il aX4_given_122 rfl ?_
              refine r_ki aX4_given_123 ?_
              refine r_n_ne aX4_given_124 (by omega) (by omega) (fun c124 => absurd rfl c124) (fun c124 => ?_)
              refine r_ki aX4_given_127 ?_
              refine r_ti (v := bI true) rfl ?_
              refine r_go aX4_given_128 ?_
              refine r_SI3 aX4_given_132 vX4_part (K_X4_part (by omega) (by omega) (by omega)) (fun x132 h132 Q132 => ?_)
              rw [Q132.1, Q132.2]
              exact r_iret hM aX4_given_135 rfl ⟨rfl, C2, F2⟩
            · rw [if_pos c101] at hM
              refine r_il aX4_given_105 rfl ?_
              refine r_nz_ne aX4_given_106 (by omega) (fun c106 => ?_) (fun c106 => by omega)
              refine r_ki aX4_given_113 ?_
              refine r_go aX4_given_115 ?_
              exact r_iret hM aX4_given_135 rfl ⟨rfl, C2, F2⟩
        · -- to 34
          refine r_ki aX4_given_34 ?_
          exact r_iret hM aX4_given_36 rfl ⟨by unfold fGiven; rw [ha, hb, hd2]; dsimp only; rw [isN c31], C, Fr.rf⟩
      · -- to 23
        refine r_ki aX4_given_23 ?_
        exact r_iret hM aX4_given_24 rfl ⟨(fGiven_b (Or.inr (Or.inr (inN_no ((in_N (n := 1) (by decide) Q17.2).symm.trans c20))))).symm, C, Fr.rf⟩
theorem K_X4_until {x y z : Int32} (S : SI σ) (C : MRep h σ) : Con ad mX4_until [.ref (ad 91), .int x, .int y, .int z] h (qI fun r h' => r = (fUntil σ x y z).1 ∧ MRep h' (fUntil σ x y z).2 ∧ Fr (fun a => 91 ≤ a) h h') := by
  have e0 := C.2.2.2.1.is
  have ho := S.2.1
  have bad : fUntil σ x y z = (-1, σ) → (-1 : Int32) = (fUntil σ x y z).1 ∧ MRep h (fUntil σ x y z).2 ∧ Fr (fun a => 91 ≤ a) h h := fun E => by rw [E]; exact ⟨rfl, C, Fr.rf⟩
  refine Con.mk vX4_until.1 vX4_until.2.2.2.2 [some (.ref (ad 91)), some (.int x), some (.int y), some (.int z), none, none, none] rfl (Nat.le_of_ble_eq_true rfl) (fun Y hM => ?_)
  refine r_il aX4_until_0 rfl ?_
  refine r_SZ1 aX4_until_1 vX4_isSet (K_X4_isSet) (fun x1 h1 Q1 => ?_)
  rw [Q1.1]
  refine r_b_eq aX4_until_4 (fun c4 => ?_) (fun c4 => ?_)
  · -- to 28
    refine r_ki aX4_until_28 ?_
    exact r_iret hM aX4_until_29 rfl (bad (fUntil_b (Or.inl (inN_no (Q1.2.symm.trans c4)))))
  · -- to 7
    refine r_il aX4_until_7 rfl ?_
    refine r_ki aX4_until_8 ?_
    refine r_ki aX4_until_9 ?_
    refine r_SZ3 aX4_until_11 vX4_in (K_X4_in) (fun x11 h11 Q11 => ?_)
    rw [Q11.1]
    refine r_b_eq aX4_until_14 (fun c14 => ?_) (fun c14 => ?_)
    · -- to 28
      refine r_ki aX4_until_28 ?_
      exact r_iret hM aX4_until_29 rfl (bad (fUntil_b (Or.inr (Or.inl (inN_no ((in_N (n := 60) (by decide) Q11.2).symm.trans c14))))))
    · -- to 17
      refine r_il aX4_until_17 rfl ?_
      refine r_ki aX4_until_18 ?_
      refine r_ki aX4_until_19 ?_
      refine r_SZ3 aX4_until_22 vX4_in (K_X4_in) (fun x22 h22 Q22 => ?_)
      rw [Q22.1]
      refine r_b_ne aX4_until_25 (fun c25 => ?_) (fun c25 => ?_)
      · -- to 30
        obtain ⟨b, -, -, hxb⟩ := inN_ex (by decide) (Q1.2.symm.trans c4)
        obtain ⟨v, hv, rfl, hyv⟩ := inN_ex (by decide) ((in_N (n := 60) (by decide) Q11.2).symm.trans c14)
        obtain ⟨n, hn, rfl, hzn⟩ := inN_ex (by decide) ((in_N (n := 500) (by decide) Q22.2).symm.trans c25)
        have E0 : fUntil σ x (nI v) (nI n) = match σ.2.2.2.1 with
            | none => (-2, σ)
            | some l => (nI (untN σ.1 σ.2.2.1 σ.2.1 x (narr v) n l.2.2).1, setNow σ (some (l.1, l.2.1 + (untN σ.1 σ.2.2.1 σ.2.1 x (narr v) n l.2.2).1, (untN σ.1 σ.2.2.1 σ.2.1 x (narr v) n l.2.2).2))) := by
          unfold fUntil
          rw [hxb, hyv, hzn]
          rfl
        rw [E0] at hM
        clear E0 bad hxb hyv hzn Q1 Q11 Q22
        refine r_al aX4_until_30 rfl ?_
        refine r_getR aX4_until_31 rfl rfl ?_
        refine r_ki aX4_until_34 ?_
        refine r_xZ aX4_until_35 rfl (by omega) e0 ?_
        refine r_b_ne aX4_until_36 (fun c36 => ?_) (fun c36 => ?_)
        · obtain ⟨l, hl⟩ := Option.isSome_iff_exists.mp c36
          rw [hl] at hM
          dsimp only at hM
          have hI := S.2.2.1 l hl
          have key : ∀ (k i : Nat) (g : Mem) (m : Lst), n - i = k → i ≤ n → untN σ.1 σ.2.2.1 σ.2.1 x (narr v) n l.2.2 = (i + (untN σ.1 σ.2.2.1 σ.2.1 x (narr v) k m).1, (untN σ.1 σ.2.2.1 σ.2.1 x (narr v) k m).2) → LI σ.1 m → MRep g (setNow σ (some (l.1, l.2.1 + i, m))) → Fr (fun a => 91 ≤ a) h g → G Y ad mX4_until 53 [some (.ref (ad 91)), some (.int x), some (.int (nI v)), some (.int (nI n)), some (.long (narr v)), none, some (.int (nI i))] [] g := by
            intro k
            induction k with
            | zero =>
              intro i g m hk0 hi hE hIg Cg hF
              have e : i = n := by omega
              subst e
              refine r_il aX4_until_53 rfl ?_
              refine r_il aX4_until_55 rfl ?_
              refine r_n_ge aX4_until_56 (by omega) (by omega) (fun c56 => ?_) (fun c56 => by omega)
              refine r_il aX4_until_96 rfl ?_
              refine r_iret hM aX4_until_98 rfl ?_
              rw [hE]
              exact ⟨rfl, Cg, hF⟩
            | succ k ih =>
              intro i g m hk0 hi hE hIg Cg hF
              have o1 : n - (i + 1) = k := by omega
              have o2 : i + 1 ≤ n := by omega
              have Sg : SI (setNow σ (some (l.1, l.2.1 + i, m))) := setNow_si S hI.1 hIg
              obtain ⟨b0, b1, b2, b3⟩ := Cg.2.2.2.1
              have hIW := (hIg.ix S.ww).iw
              rw [untN] at hE
              refine r_il aX4_until_53 rfl ?_
              refine r_il aX4_until_55 rfl ?_
              refine r_n_ge aX4_until_56 (by omega) (by omega) (fun c56 => by omega) (fun c56 => ?_)
              refine r_al aX4_until_59 rfl ?_
              refine r_ki aX4_until_60 ?_
              refine r_il aX4_until_61 rfl ?_
              refine r_VL2 aX4_until_62 vX4_high rfl (K_X4_high (l := 0) S.ww Cg.1 Cg.2.2.2.2.2 b3 (by omega) hIW) (fun x62 h62 Q62 => ?_)
              obtain ⟨q1, q2, q3⟩ := Q62
              rw [q1]
              refine r_al aX4_until_65 rfl ?_
              refine r_ki aX4_until_66 ?_
              refine r_il aX4_until_67 rfl ?_
              refine r_VL2 aX4_until_68 vX4_low rfl (K_X4_low (l := 0) S.ww (Cg.1.lk q3) q2 (b3.lk q3) (by omega) hIW) (fun x68 h68 Q68 => ?_)
              obtain ⟨t1, t2, t3⟩ := Q68
              rw [t1]
              have C2 := (Cg.lk q3 q2).lk t3 t2
              have F2 := hF.tr (q3.fr.tr t3.fr)
              refine r_lsub aX4_until_71 ?_
              refine r_ll aX4_until_72 rfl ?_
              refine r_l_le aX4_until_74 aX4_until_75 (fun c74 => ?_) (fun c74 => ?_)
              · have c74 : wid σ.1 m x ≤ narr v := c74
                rw [if_pos c74] at hE
                refine r_il aX4_until_96 rfl ?_
                refine r_iret hM aX4_until_98 rfl ?_
                rw [hE]
                exact ⟨rfl, C2, F2⟩
              · have c74 : ¬ wid σ.1 m x ≤ narr v := c74
                rw [if_neg c74] at hE
                obtain ⟨d0, d1, d2, d3⟩ := C2.2.2.2.1
                refine r_al aX4_until_78 rfl ?_
                refine r_ki aX4_until_79 ?_
                refine r_al aX4_until_80 rfl ?_
                refine r_gI aX4_until_81 rfl rfl (v := nI σ.2.1) C2.2.1 ?_
                refine r_VZ2 aX4_until_84 vX4_goOn rfl (K_X4_goOn (l := 0) (jn := σ.2.2.1) (by omega) S.ww C2.1 d3 hIg C2.2.2.1 ho d2) (fun x84 h84 Q84 => ?_)
                obtain ⟨u1, u2, u3, u4, u5, u6⟩ := Q84
                have Cn := C2.go Sg rfl u2 u3 u4 u5 u6
                have Fn := F2.tr u6.fr
                cases hg : goS σ.1 σ.2.2.1 σ.2.1 m with
                | none =>
                  rw [hg] at u1 Cn hE
                  refine r_b_eq aX4_until_87 (fun c87 => ?_) (fun c87 => by rw [u1] at c87; cases c87)
                  refine r_il aX4_until_96 rfl ?_
                  refine r_iret hM aX4_until_98 rfl ?_
                  rw [hE]
                  exact ⟨rfl, Cn, Fn⟩
                | some m' =>
                  rw [hg] at u1 Cn hE
                  refine r_b_eq aX4_until_87 (fun c87 => by rw [u1] at c87; cases c87) (fun c87 => ?_)
                  refine r_in6 aX4_until_90 rfl ?_
                  refine r_go aX4_until_93 ?_
                  exact ih (i + 1) h84 m' o1 o2 (by rw [hE]; dsimp only; rw [show i + 1 + (untN σ.1 σ.2.2.1 σ.2.1 x (narr v) k m').1 = i + ((untN σ.1 σ.2.2.1 σ.2.1 x (narr v) k m').1 + 1) by omega]) (goS_li S.ww hIg hg) Cn Fn
          refine r_kl aX4_until_42 ?_
          refine r_ki aX4_until_43 ?_
          refine r_il aX4_until_45 rfl ?_
          refine r_isubN aX4_until_46 (by omega) ?_
          refine r_lshl aX4_until_47 ?_
          refine r_ls4 aX4_until_48 rfl ?_
          refine r_ki aX4_until_50 ?_
          refine r_is6 aX4_until_51 rfl ?_
          exact key n 0 h l.2.2 rfl (by omega) (by rw [Nat.zero_add]) hI.2 (by rw [Nat.add_zero]; show MRep h (σ.1, σ.2.1, σ.2.2.1, some l, σ.2.2.2.2); rw [← hl]; exact C) Fr.rf
        · rw [isN c36] at hM
          refine r_ki aX4_until_39 ?_
          exact r_iret hM aX4_until_41 rfl ⟨rfl, C, Fr.rf⟩
      · -- to 28
        refine r_ki aX4_until_28 ?_
        exact r_iret hM aX4_until_29 rfl (bad (fUntil_b (Or.inr (Or.inr (inN_no ((in_N (n := 500) (by decide) Q22.2).symm.trans c25))))))
theorem K_X4_begin {x : Int32} (S : SI σ) (C : MRep h σ) : Con ad mX4_begin [.ref (ad 91), .int x] h (qI fun r h' => r = (fBegin σ x).1 ∧ MRep h' (fBegin σ x).2 ∧ Fr (fun a => 91 ≤ a) h h') := by
  have hW := S.ww
  have h20 := hW.n
  have hn := C.1.1
  refine Con.mk vX4_begin.1 vX4_begin.2.2.2.2 [some (.ref (ad 91)), some (.int x), none, none] rfl (Nat.le_of_ble_eq_true rfl) (fun Y hM => ?_)
  refine r_al aX4_begin_0 rfl ?_
  refine r_il aX4_begin_1 rfl ?_
  refine r_VZ1 aX4_begin_2 vX4_isState rfl (K_X4_isState hW C.1) (fun x2 h2 Q2 => ?_)
  rw [Q2.1]
  refine r_b_ne aX4_begin_5 (fun c5 => ?_) (fun c5 => ?_)
  · -- to 10
    obtain ⟨s, hs, rfl, hx⟩ := inN_ex (by omega) (Q2.2.symm.trans c5)
    have E0 : fBegin σ (nI s) = if wh σ.1 s then (rm σ.1 s, setNow σ (some (s, 0, begL s))) else (-2, σ) := by unfold fBegin; rw [hx]
    rw [E0] at hM
    clear E0
    refine r_al aX4_begin_10 rfl ?_
    refine r_il aX4_begin_11 rfl ?_
    refine r_VI1 aX4_begin_12 vX4_comes rfl (K_X4_comes hW C.1 hs) (fun x12 h12 Q12 => ?_)
    rw [Q12.1]
    have hto := Q12.2
    have loop : ∀ (k t : Nat), σ.1.1 - t = k → t ≤ σ.1.1 → whU σ.1 s t = true → G Y ad mX4_begin 18 [some (.ref (ad 91)), some (.int (nI s)), some (.int x12), some (.int (nI t))] [] h := by
      intro k
      induction k with
      | zero =>
        intro t hk ht hx
        have e : t = σ.1.1 := by omega
        subst e
        have hwh : wh σ.1 s = true := hx
        rw [hwh, if_pos rfl] at hM
        refine r_il aX4_begin_18 rfl ?_
        refine r_al aX4_begin_19 rfl ?_
        refine r_gI aX4_begin_20 rfl rfl hn ?_
        refine r_n_ge aX4_begin_23 (by omega) (by omega) (fun c23 => ?_) (fun c23 => by omega)
        refine r_al aX4_begin_65 rfl ?_
        refine r_ki aX4_begin_66 ?_
        refine r_il aX4_begin_67 rfl ?_
        refine r_VV2 aX4_begin_68 vX4_open rfl (K_X4_open (l := 0) (by omega) (by omega)) (fun h68 Q68 => ?_)
        obtain ⟨q1, q2, q3, q4, q5⟩ := Q68
        have C2 : MRep h68 (setNow σ (some (s, 0, begL s))) := C.now S q5 ⟨q2, q3, q4, q1⟩
        refine r_al aX4_begin_71 rfl ?_
        refine r_il aX4_begin_72 rfl ?_
        refine r_VI1 aX4_begin_73 vX4_reach rfl (K_X4_reach hW C2.1 C2.2.2.2.2.2 hs) (fun x73 h73 Q73 => ?_)
        obtain ⟨t1, t2, t3⟩ := Q73
        exact r_iret hM aX4_begin_76 rfl ⟨t1, C2.lk t3 t2.k, q5.fr.tr t3.fr⟩
      | succ k ih =>
        intro t hk ht hx
        have o1 : σ.1.1 - (t + 1) = k := by omega
        have o2 : t + 1 ≤ σ.1.1 := by omega
        have o3 : t < σ.1.1 := by omega
        have hou := C.1.2.1 t o3
        have hsu := C.1.2.2.2.2.1 t o3
        have htt := hW.tot t
        have hbt := hto t o3
        have nx : (rB σ.1 s t && (decide (σ.1.2.1 t = none) && !decide (tot (σ.1.2.2.1 t) = 16))) = false → G Y ad mX4_begin 59 [some (.ref (ad 91)), some (.int (nI s)), some (.int x12), some (.int (nI t))] [] h := by
          intro z
          refine r_in3 aX4_begin_59 rfl ?_
          refine r_go aX4_begin_62 ?_
          exact ih (t + 1) o1 o2 (by rw [whU, hx, z]; rfl)
        refine r_il aX4_begin_18 rfl ?_
        refine r_al aX4_begin_19 rfl ?_
        refine r_gI aX4_begin_20 rfl rfl hn ?_
        refine r_n_ge aX4_begin_23 (by omega) (by omega) (fun c23 => by omega) (fun c23 => ?_)
        refine r_il aX4_begin_26 rfl ?_
        refine r_il aX4_begin_27 rfl ?_
        refine r_ishr aX4_begin_28 ?_
        refine r_ki aX4_begin_29 ?_
        refine r_iand aX4_begin_30 ?_
        refine r_ki aX4_begin_31 ?_
        refine r_c_ne aX4_begin_32 (fun c32 => ?_) (fun c32 => ?_)
        · exact nx (by rw [← hbt, bitAt_f c32]; rfl)
        · have hb := hbt.symm.trans (bitAt_t c32)
          refine r_al aX4_begin_35 rfl ?_
          refine r_getR aX4_begin_36 rfl rfl ?_
          refine r_il aX4_begin_39 rfl ?_
          refine r_xI aX4_begin_40 rfl (by omega) hou ?_
          refine r_ki aX4_begin_41 ?_
          refine r_c_ne aX4_begin_42 (fun c42 => ?_) (fun c42 => ?_)
          · obtain ⟨o, hz⟩ := oI_some c42
            exact nx (by rw [hz]; simp)
          · have hz : σ.1.2.1 t = none := oI_none c42 (fun o ho => by have := (hW.2.2.1 t o ho).1; omega)
            refine r_al aX4_begin_45 rfl ?_
            refine r_getR aX4_begin_46 rfl rfl ?_
            refine r_il aX4_begin_49 rfl ?_
            refine r_xI aX4_begin_50 rfl (by omega) hsu ?_
            refine r_ki aX4_begin_51 ?_
            refine r_n_ge aX4_begin_53 (by omega) (by omega) (fun c53 => ?_) (fun c53 => ?_)
            · exact nx (by rw [decide_eq_true (show tot (σ.1.2.2.1 t) = 16 by omega)]; simp)
            · have hf : wh σ.1 s = false := whU_f o3 hb hz (by omega)
              rw [hf, if_neg (by decide)] at hM
              refine r_ki aX4_begin_56 ?_
              exact r_iret hM aX4_begin_58 rfl ⟨rfl, C, Fr.rf⟩
    refine r_is2 aX4_begin_15 rfl ?_
    refine r_ki aX4_begin_16 ?_
    refine r_is3 aX4_begin_17 rfl ?_
    exact loop _ 0 rfl (by omega) rfl
  · -- to 8
    refine r_ki aX4_begin_8 ?_
    exact r_iret hM aX4_begin_9 rfl (by unfold fBegin; rw [inN_no (Q2.2.symm.trans c5)]; exact ⟨rfl, C, Fr.rf⟩)
theorem K_X4_told {x : Int32} (S : SI σ) (C : MRep h σ) : Con ad mX4_told [.ref (ad 91), .int x] h (qI fun r h' => r = fTold σ x ∧ MRep h' σ ∧ Fr (fun a => 91 ≤ a) h h') := by
  have h20 := S.ww.n
  have n7 := C.2.1
  have hn := C.1.1
  have L1 := C.2.2.2.1
  have e0 := C.2.2.2.1.is
  refine Con.mk vX4_told.1 vX4_told.2.2.2.2 [some (.ref (ad 91)), some (.int x)] rfl (Nat.le_of_ble_eq_true rfl) (fun Y hM => ?_)
  refine r_il aX4_told_0 rfl ?_
  cases hx : inN x 5 with
  | some j =>
    obtain ⟨hj, rfl⟩ := (inN_s (by decide)).mp hx
    have ti : (nI j).toInt = (j : Int) := nI_toInt (by omega)
    rcases (by omega : j = 0 ∨ j = 1 ∨ j = 2 ∨ j = 3 ∨ j = 4) with rfl | rfl | rfl | rfl | rfl
    · refine r_tsI tw_X4_told (by rw [ti]; decide) (by rw [ti]; decide) (off := 35) (by rw [ti]; decide) (tgt := 36) (by decide) ?_
      refine r_al aX4_told_36 rfl ?_
      refine r_gI aX4_told_37 rfl rfl hn ?_
      exact r_iret hM aX4_told_40 rfl ⟨by unfold fTold; rw [hx]; rfl, C, Fr.rf⟩
    · refine r_tsI tw_X4_told (by rw [ti]; decide) (by rw [ti]; decide) (off := 40) (by rw [ti]; decide) (tgt := 41) (by decide) ?_
      refine r_al aX4_told_41 rfl ?_
      refine r_getR aX4_told_42 rfl rfl ?_
      refine r_ki aX4_told_45 ?_
      refine r_xZ aX4_told_46 rfl (by omega) e0 ?_
      refine r_b_eq aX4_told_47 (fun c47 => ?_) (fun c47 => ?_)
      · -- to 59
        refine r_ki aX4_told_59 ?_
        exact r_iret hM aX4_told_60 rfl ⟨by unfold fTold; rw [hx, isN c47]; rfl, C, Fr.rf⟩
      · -- to 50
        refine r_al aX4_told_50 rfl ?_
        refine r_getR aX4_told_51 rfl rfl ?_
        refine r_ki aX4_told_54 ?_
        refine r_iald aX4_told_55 rfl (by omega) ?_
        refine r_go aX4_told_56 ?_
        exact r_iret hM aX4_told_60 rfl ⟨by unfold fTold; rw [hx]; obtain ⟨l, hl⟩ := Option.isSome_iff_exists.mp c47; rw [hl] at L1 ⊢; exact L1.2.2.2.1, C, Fr.rf⟩
    · refine r_tsI tw_X4_told (by rw [ti]; decide) (by rw [ti]; decide) (off := 60) (by rw [ti]; decide) (tgt := 61) (by decide) ?_
      refine r_al aX4_told_61 rfl ?_
      refine r_getR aX4_told_62 rfl rfl ?_
      refine r_ki aX4_told_65 ?_
      refine r_xZ aX4_told_66 rfl (by omega) e0 ?_
      refine r_b_eq aX4_told_67 (fun c67 => ?_) (fun c67 => ?_)
      · -- to 79
        refine r_ki aX4_told_79 ?_
        exact r_iret hM aX4_told_80 rfl ⟨by unfold fTold; rw [hx, isN c67]; rfl, C, Fr.rf⟩
      · -- to 70
        refine r_al aX4_told_70 rfl ?_
        refine r_getR aX4_told_71 rfl rfl ?_
        refine r_ki aX4_told_74 ?_
        refine r_iald aX4_told_75 rfl (by omega) ?_
        refine r_go aX4_told_76 ?_
        exact r_iret hM aX4_told_80 rfl ⟨by unfold fTold; rw [hx]; obtain ⟨l, hl⟩ := Option.isSome_iff_exists.mp c67; rw [hl] at L1 ⊢; exact L1.2.2.1, C, Fr.rf⟩
    · refine r_tsI tw_X4_told (by rw [ti]; decide) (by rw [ti]; decide) (off := 80) (by rw [ti]; decide) (tgt := 81) (by decide) ?_
      refine r_al aX4_told_81 rfl ?_
      refine r_getR aX4_told_82 rfl rfl ?_
      refine r_ki aX4_told_85 ?_
      refine r_xZ aX4_told_86 rfl (by omega) e0 ?_
      refine r_b_eq aX4_told_87 (fun c87 => ?_) (fun c87 => ?_)
      · -- to 99
        refine r_ki aX4_told_99 ?_
        exact r_iret hM aX4_told_100 rfl ⟨by unfold fTold; rw [hx, isN c87]; rfl, C, Fr.rf⟩
      · -- to 90
        refine r_al aX4_told_90 rfl ?_
        refine r_getR aX4_told_91 rfl rfl ?_
        refine r_ki aX4_told_94 ?_
        refine r_iald aX4_told_95 rfl (by omega) ?_
        refine r_go aX4_told_96 ?_
        exact r_iret hM aX4_told_100 rfl ⟨by unfold fTold; rw [hx]; obtain ⟨l, hl⟩ := Option.isSome_iff_exists.mp c87; rw [hl] at L1 ⊢; exact L1.2.1, C, Fr.rf⟩
    · refine r_tsI tw_X4_told (by rw [ti]; decide) (by rw [ti]; decide) (off := 100) (by rw [ti]; decide) (tgt := 101) (by decide) ?_
      refine r_al aX4_told_101 rfl ?_
      refine r_gI aX4_told_102 rfl rfl n7 ?_
      exact r_iret hM aX4_told_105 rfl ⟨by unfold fTold; rw [hx]; rfl, C, Fr.rf⟩
  | none =>
    have hout : x.toInt < 0 ∨ 4 < x.toInt := by
      rcases Classical.em (x.toInt < 0 ∨ 4 < x.toInt) with z | z
      · exact z
      · exfalso
        have h0 : ¬ x < 0 := fun q => z (Or.inl (by rw [Int32.lt_iff_toInt_lt, Int32.toInt_zero] at q; exact q))
        have h5 : ¬ nI 5 ≤ x := fun q => z (Or.inr (by rw [Int32.le_iff_toInt_le, nI_toInt (by decide)] at q; omega))
        have := inN_in h0 h5
        rw [hx] at this
        cases this
    refine r_tsO tw_X4_told hout (tgt := 106) (by decide) ?_
    have E0 : fTold σ x = match inN (x - nI 10) σ.1.1 with
        | none => -1
        | some s => oI (σ.1.2.2.2 s) := by unfold fTold; rw [hx]; rfl
    rw [E0] at hM
    refine r_al aX4_told_106 rfl ?_
    refine r_il aX4_told_107 rfl ?_
    refine r_ki aX4_told_108 ?_
    refine r_isub aX4_told_110 ?_
    refine r_VZ1 aX4_told_111 vX4_isState rfl (K_X4_isState S.ww C.1) (fun x111 h111 Q111 => ?_)
    rw [Q111.1]
    refine r_b_eq aX4_told_114 (fun c114 => ?_) (fun c114 => ?_)
    · -- to 129
      refine r_ki aX4_told_129 ?_
      exact r_iret hM aX4_told_130 rfl ⟨by rw [inN_no (Q111.2.symm.trans c114)], C, Fr.rf⟩
    · -- to 117
      obtain ⟨s, hs, e, hz⟩ := inN_ex (by omega) (Q111.2.symm.trans c114)
      rw [hz] at hM
      have el := C.1.2.2.2.2.2 s hs
      refine r_al aX4_told_117 rfl ?_
      refine r_getR aX4_told_118 rfl rfl ?_
      refine r_il aX4_told_121 rfl ?_
      refine r_ki aX4_told_122 ?_
      refine r_isub aX4_told_124 ?_
      refine r_ti e ?_
      refine r_xI aX4_told_125 rfl (by omega) el ?_
      refine r_go aX4_told_126 ?_
      exact r_iret hM aX4_told_130 rfl ⟨rfl, C, Fr.rf⟩
end MODEL7

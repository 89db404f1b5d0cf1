theorem LR.st {h : Mem} {q : Nat} {L : List Itm} {F R : Nat → Nat} (H : LR h q L F R) (x : Int32) : LR (si h q 1 x) q L F R := by
  obtain ⟨a, b, c, d, e⟩ := H
  exact ⟨by rw [si_1]; simpa using a, b.cong (fun _ _ => by rw [si_o (by omega)]) (fun _ _ => by rw [si_o (by omega)]) (fun _ _ => rfl), c, d, e⟩
theorem LR.fr {h h' : Mem} {q : Nat} {L : List Itm} {F R : Nat → Nat} {P : Nat → Prop} (H : LR h q L F R) (hf : Fr P h h') (hp : ∀ a, P a → a < q ∨ q + 7 ≤ a) : LR h' q L F R := by
  have e : ∀ k, k < 7 → h'.1 (q + k) = h.1 (q + k) ∧ h'.2 (q + k) = h.2 (q + k) := fun k hk => hf (q + k) (fun z => by rcases hp _ z with y | y <;> omega)
  obtain ⟨a, b, c, d, f⟩ := H
  have e0 := (e 0 (by omega)).1
  rw [Nat.add_zero] at e0
  refine ⟨by rw [e0]; exact a, b.cong (fun _ _ => by rw [(e 1 (by omega)).1]) (fun _ _ => by rw [(e 2 (by omega)).1]) (fun _ _ => by rw [(e 3 (by omega)).2]), fun i hi => by rw [(e 4 (by omega)).2]; exact c i hi, fun i hi => by rw [(e 5 (by omega)).2]; exact d i hi, fun i hi => by rw [(e 6 (by omega)).2]; exact f i hi⟩
/-- a listing and the shares -/
def inLS (q a : Nat) : Prop := inL q a ∨ inS a
section GO
variable {ad : Nat → Nat} {h : Mem} {w : Wk} {q kind st : Nat} {ℓ : Lst} {jn : Bool}
theorem K_X3_goOnOnce (hq : IsL q) (hql : 55 ≤ q) (hW : WW w) (hR : WR h w) (hL : LR h q ℓ.1 ℓ.2.1 ℓ.2.2) (hI : LI w ℓ) (hj : h.1 0 6 = bI jn) (hk : kind ≤ 2) (hst : h.1 q 1 = nI st) : Con ad mX3_goOnOnce [.ref (ad 0), .ref (ad q), .int (nI kind)] h (qZ fun b h' => b = (goS w jn kind ℓ).isSome ∧ LR h' q ((goS w jn kind ℓ).getD ℓ).1 ((goS w jn kind ℓ).getD ℓ).2.1 ((goS w jn kind ℓ).getD ℓ).2.2 ∧ h'.1 q 0 = h.1 q 0 ∧ h'.1 q 1 = nI (st + if (goS w jn kind ℓ).isSome then 1 else 0) ∧ Fr (inLS q) h h') := by
  have hIX := hI.ix hW
  have hIW := hIX.iw
  obtain ⟨L, F, R⟩ := ℓ
  dsimp only at hL hIX hIW
  obtain ⟨i1, i2, i3⟩ := hI
  dsimp only at i1 i2 i3
  have hn20 := hW.n
  obtain ⟨ln, lI, lF, lR, lH⟩ := id hL
  have isub : ∀ a, inL q a → inLS q a := fun a z => Or.inl z
  refine Con.mk vX3_goOnOnce.1 vX3_goOnOnce.2.2.2.2 [some (.ref (ad 0)), some (.ref (ad q)), some (.int (nI kind)), none, none, none, none] rfl (Nat.le_of_ble_eq_true rfl) (fun Y hM => ?_)
  cases hx : nxt kind L with
  | none =>
    have hg : goS w jn kind (L, F, R) = none := by unfold goS; dsimp only; rw [hx]
    rw [hg] at hM
    refine r_al aX3_goOnOnce_0 rfl ?_
    refine r_il aX3_goOnOnce_1 rfl ?_
    refine r_VI1 aX3_goOnOnce_2 vX0_nextBy hq.1 (K_X0_nextBy hq hIW ln lI hk) (fun x2 h2 Q2 => ?_)
    rw [Q2.1, Q2.2, hx]
    refine r_is3 aX3_goOnOnce_5 rfl ?_
    refine r_al aX3_goOnOnce_6 rfl ?_
    refine r_il aX3_goOnOnce_7 rfl ?_
    refine r_VZ1 aX3_goOnOnce_8 vX0_hasItem hq.1 (K_X0_hasItem hq ln i1) (fun x8 h8 Q8 => ?_)
    rw [Q8.1]
    refine r_b_ne aX3_goOnOnce_11 (fun c11 => ?_) (fun c11 => ?_)
    · obtain ⟨j, hj, e⟩ := Q8.2.mp c11
      exact absurd e (nI_neg (by decide) j (by omega))
    · -- to 14
      refine r_ki aX3_goOnOnce_14 ?_
      exact r_zF hM aX3_goOnOnce_15 rfl ⟨rfl, hL, rfl, hst, Fr.rf⟩
  | some i =>
    have hi := nxt_lt hx
    obtain ⟨e1, e2, e3⟩ := lI.gi hi
    rw [n0] at e1 e2 e3
    have hm := i2 _ (gi_mem hi)
    have hmu := (hIW.gi hi).2.2
    have hge := gi_eq hi
    cases ho : w.2.1 (gi L i).1 with
    | some o =>
      have hg : goS w jn kind (L, F, R) = some (L.eraseIdx i, va_up F o (F o + (gi L i).2.2), R) := by unfold goS; dsimp only; rw [hx]; dsimp only; rw [ho]
      rw [hg] at hM
      have o8 := (hW.2.2.1 _ o ho).1
      refine r_al aX3_goOnOnce_0 rfl ?_
      refine r_il aX3_goOnOnce_1 rfl ?_
      refine r_VI1 aX3_goOnOnce_2 vX0_nextBy hq.1 (K_X0_nextBy hq hIW ln lI hk) (fun x2 h2 Q2 => ?_)
      rw [Q2.1, Q2.2, hx]
      refine r_is3 aX3_goOnOnce_5 (x := nI i) rfl ?_
      refine r_al aX3_goOnOnce_6 rfl ?_
      refine r_il aX3_goOnOnce_7 rfl ?_
      refine r_VZ1 aX3_goOnOnce_8 vX0_hasItem hq.1 (K_X0_hasItem hq ln i1) (fun x8 h8 Q8 => ?_)
      rw [Q8.1]
      refine r_b_ne aX3_goOnOnce_11 (fun c11 => ?_) (fun c11 => ?_)
      · -- to 16
        refine r_al aX3_goOnOnce_16 rfl ?_
        refine r_getR aX3_goOnOnce_17 hq.1 rfl ?_
        refine r_il aX3_goOnOnce_20 rfl ?_
        refine r_xI aX3_goOnOnce_21 hq.2.1 (by omega) e1 ?_
        refine r_is4 aX3_goOnOnce_22 rfl ?_
        refine r_al aX3_goOnOnce_24 rfl ?_
        refine r_getR aX3_goOnOnce_25 hq.1 rfl ?_
        refine r_il aX3_goOnOnce_28 rfl ?_
        refine r_xL aX3_goOnOnce_29 hq.2.2.2.1 (by omega) e3 ?_
        refine r_ls5 aX3_goOnOnce_30 rfl ?_
        refine r_al aX3_goOnOnce_32 rfl ?_
        refine r_getR aX3_goOnOnce_33 rfl rfl ?_
        refine r_il aX3_goOnOnce_36 rfl ?_
        refine r_VZ1 aX3_goOnOnce_38 vX2_goesOn rfl (K_X2_goesOn hW hR) (fun x38 h38 Q38 => ?_)
        rw [Q38.1]
        refine r_b_ne aX3_goOnOnce_41 (fun c41 => ?_) (fun c41 => ?_)
        · obtain ⟨j, hj, e, e'⟩ := Q38.2.mp c41
          rw [← (nI_eq (by omega) (by omega)).mp e, ho] at e'
          cases e'
        · -- to 44
          refine r_al aX3_goOnOnce_44 rfl ?_
          refine r_il aX3_goOnOnce_45 rfl ?_
          refine r_VV1 aX3_goOnOnce_46 vX0_takeOut hq.1 (K_X0_takeOut hq hIW hi hL) (fun h46 Q46 => ?_)
          have hR2 := hR.fr Q46.2.2.2 (fun a z => Or.inl (by have := z.1; omega))
          have eo := hR2.2.1 _ hm.1
          rw [ho] at eo
          refine r_al aX3_goOnOnce_49 rfl ?_
          refine r_al aX3_goOnOnce_50 rfl ?_
          refine r_getR aX3_goOnOnce_51 rfl rfl ?_
          refine r_getR aX3_goOnOnce_54 rfl rfl ?_
          refine r_il aX3_goOnOnce_57 rfl ?_
          refine r_xI aX3_goOnOnce_59 rfl (by omega) eo ?_
          refine r_ll aX3_goOnOnce_60 rfl ?_
          refine r_VV2 aX3_goOnOnce_62 vX0_addEnded hq.1 (K_X0_addEnded (o := o) hq o8 Q46.1) (fun h62 Q62 => ?_)
          refine r_go aX3_goOnOnce_65 ?_
          refine r_al aX3_goOnOnce_175 rfl ?_
          refine r_dup aX3_goOnOnce_176 rfl ?_
          refine r_gI (v := nI st) aX3_goOnOnce_177 hq.1 rfl (by rw [Q62.2.1, Q46.2.2.1]; exact hst) ?_
          refine r_ki aX3_goOnOnce_180 ?_
          refine r_iaddN aX3_goOnOnce_181 ?_
          refine r_putI aX3_goOnOnce_182 hq.1 rfl rfl ?_
          refine r_ki aX3_goOnOnce_185 ?_
          exact r_zT hM aX3_goOnOnce_186 rfl ⟨rfl, Q62.1.st _, by rw [si_1]; simp; rw [Q62.2.1, Q46.2.1], by rw [si_1]; simp, ((Q46.2.2.2.tr Q62.2.2).tr (Fr.si ⟨by omega, by omega⟩)).mono isub⟩
      · exact absurd (Q8.2.mpr ⟨i, hi, rfl⟩) (by rw [c11]; decide)
    | none =>
      by_cases hd : 40 ≤ (gi L i).2.1
      · have hg : goS w jn kind (L, F, R) = some (L.eraseIdx i, F, va_up R (gi L i).1 (R (gi L i).1 + (gi L i).2.2)) := by unfold goS; dsimp only; rw [hx]; dsimp only; rw [ho]; dsimp only; rw [if_pos hd]
        rw [hg] at hM
        refine r_al aX3_goOnOnce_0 rfl ?_
        refine r_il aX3_goOnOnce_1 rfl ?_
        refine r_VI1 aX3_goOnOnce_2 vX0_nextBy hq.1 (K_X0_nextBy hq hIW ln lI hk) (fun x2 h2 Q2 => ?_)
        rw [Q2.1, Q2.2, hx]
        refine r_is3 aX3_goOnOnce_5 (x := nI i) rfl ?_
        refine r_al aX3_goOnOnce_6 rfl ?_
        refine r_il aX3_goOnOnce_7 rfl ?_
        refine r_VZ1 aX3_goOnOnce_8 vX0_hasItem hq.1 (K_X0_hasItem hq ln i1) (fun x8 h8 Q8 => ?_)
        rw [Q8.1]
        refine r_b_ne aX3_goOnOnce_11 (fun c11 => ?_) (fun c11 => ?_)
        · -- to 16
          refine r_al aX3_goOnOnce_16 rfl ?_
          refine r_getR aX3_goOnOnce_17 hq.1 rfl ?_
          refine r_il aX3_goOnOnce_20 rfl ?_
          refine r_xI aX3_goOnOnce_21 hq.2.1 (by omega) e1 ?_
          refine r_is4 aX3_goOnOnce_22 rfl ?_
          refine r_al aX3_goOnOnce_24 rfl ?_
          refine r_getR aX3_goOnOnce_25 hq.1 rfl ?_
          refine r_il aX3_goOnOnce_28 rfl ?_
          refine r_xL aX3_goOnOnce_29 hq.2.2.2.1 (by omega) e3 ?_
          refine r_ls5 aX3_goOnOnce_30 rfl ?_
          refine r_al aX3_goOnOnce_32 rfl ?_
          refine r_getR aX3_goOnOnce_33 rfl rfl ?_
          refine r_il aX3_goOnOnce_36 rfl ?_
          refine r_VZ1 aX3_goOnOnce_38 vX2_goesOn rfl (K_X2_goesOn hW hR) (fun x38 h38 Q38 => ?_)
          rw [Q38.1]
          refine r_b_ne aX3_goOnOnce_41 (fun c41 => ?_) (fun c41 => ?_)
          · -- to 68
            refine r_al aX3_goOnOnce_68 rfl ?_
            refine r_getR aX3_goOnOnce_69 hq.1 rfl ?_
            refine r_il aX3_goOnOnce_72 rfl ?_
            refine r_xI aX3_goOnOnce_73 hq.2.2.1 (by omega) e2 ?_
            refine r_ki aX3_goOnOnce_74 ?_
            refine r_n_lt aX3_goOnOnce_76 (by omega) (by omega) (fun c76 => ?_) (fun c76 => ?_)
            · omega
            · -- to 79
              refine r_al aX3_goOnOnce_79 rfl ?_
              refine r_il aX3_goOnOnce_80 rfl ?_
              refine r_VV1 aX3_goOnOnce_81 vX0_takeOut hq.1 (K_X0_takeOut hq hIW hi hL) (fun h81 Q81 => ?_)
              refine r_al aX3_goOnOnce_84 rfl ?_
              refine r_il aX3_goOnOnce_85 rfl ?_
              refine r_ll aX3_goOnOnce_87 rfl ?_
              refine r_VV2 aX3_goOnOnce_89 vX0_addLeft hq.1 (K_X0_addLeft hq (by omega) Q81.1) (fun h89 Q89 => ?_)
              refine r_go aX3_goOnOnce_92 ?_
              refine r_al aX3_goOnOnce_175 rfl ?_
              refine r_dup aX3_goOnOnce_176 rfl ?_
              refine r_gI (v := nI st) aX3_goOnOnce_177 hq.1 rfl (by rw [Q89.2.1, Q81.2.2.1]; exact hst) ?_
              refine r_ki aX3_goOnOnce_180 ?_
              refine r_iaddN aX3_goOnOnce_181 ?_
              refine r_putI aX3_goOnOnce_182 hq.1 rfl rfl ?_
              refine r_ki aX3_goOnOnce_185 ?_
              exact r_zT hM aX3_goOnOnce_186 rfl ⟨rfl, Q89.1.st _, by rw [si_1]; simp; rw [Q89.2.1, Q81.2.1], by rw [si_1]; simp, ((Q81.2.2.2.tr Q89.2.2).tr (Fr.si ⟨by omega, by omega⟩)).mono isub⟩
          · exact absurd (Q38.2.mpr ⟨_, hm.1, rfl, ho⟩) (by rw [c41]; decide)
        · exact absurd (Q8.2.mpr ⟨i, hi, rfl⟩) (by rw [c11]; decide)
      · have hM0 := divS_mem (m := (gi L i).2.2) hW hm.1 (by omega : (gi L i).2.1 < 40)
        have hS0 := divS_sum (d := (gi L i).2.1) (m := (gi L i).2.2) hW hm.1
        have hl0 := divS_len (s := (gi L i).1) (d := (gi L i).2.1) (m := (gi L i).2.2) hW
        have hg0 : goS w jn kind (L, F, R) = if 60 < L.length - 1 + cnt jn L (divS w (gi L i).1 (gi L i).2.1 (gi L i).2.2) then none else some (pu jn (L.eraseIdx i) (divS w (gi L i).1 (gi L i).2.1 (gi L i).2.2), F, va_up R (gi L i).1 (R (gi L i).1 + ((gi L i).2.2 - uSum (divS w (gi L i).1 (gi L i).2.1 (gi L i).2.2)))) := by unfold goS; dsimp only; rw [hx]; dsimp only; rw [ho]; dsimp only; rw [if_neg hd]
        rw [hg0] at hM
        have hcE := cnt_erase (jn := jn) hi (Sh := divS w (gi L i).1 (gi L i).2.1 (gi L i).2.2) (fun p hp => by have := (hM0 p hp).2.2; omega)
        have hpu := pu_cnt jn (L.eraseIdx i) (divS w (gi L i).1 (gi L i).2.1 (gi L i).2.2)
        rw [hcE, List.length_eraseIdx, if_pos hi] at hpu
        have hcl : cnt jn L (divS w (gi L i).1 (gi L i).2.1 (gi L i).2.2) ≤ 32 := by
          unfold cnt
          have := cn_le L (divS w (gi L i).1 (gi L i).2.1 (gi L i).2.2) (divS w (gi L i).1 (gi L i).2.1 (gi L i).2.2).length
          split <;> omega
        have hK := @K_X1_divide ad h w (gi L i).1 (gi L i).2.1 (gi L i).2.2 hW hR hm.1 (by omega) hmu
        have hu := uSum_erase L i hi
        generalize divS w (gi L i).1 (gi L i).2.1 (gi L i).2.2 = Sh at hM hM0 hS0 hl0 hpu hcl hK hcE
        clear hcE hg0
        have hc1 : L.length - 1 + cnt jn L Sh < 2147483648 := by omega
        have hc2 : (60 : Nat) < 2147483648 := by decide
        have hS20 : ∀ p ∈ Sh, p.1 < 20 ∧ p.2.1 ≤ 40 := fun p hp => ⟨by have := (hM0 p hp).1; omega, (hM0 p hp).2.1⟩
        have hsubS : ∀ a, inS a → inLS q a := fun a z => Or.inr z
        refine r_al aX3_goOnOnce_0 rfl ?_
        refine r_il aX3_goOnOnce_1 rfl ?_
        refine r_VI1 aX3_goOnOnce_2 vX0_nextBy hq.1 (K_X0_nextBy hq hIW ln lI hk) (fun x2 h2 Q2 => ?_)
        rw [Q2.1, Q2.2, hx]
        refine r_is3 aX3_goOnOnce_5 (x := nI i) rfl ?_
        refine r_al aX3_goOnOnce_6 rfl ?_
        refine r_il aX3_goOnOnce_7 rfl ?_
        refine r_VZ1 aX3_goOnOnce_8 vX0_hasItem hq.1 (K_X0_hasItem hq ln i1) (fun x8 h8 Q8 => ?_)
        rw [Q8.1]
        refine r_b_ne aX3_goOnOnce_11 (fun c11 => ?_) (fun c11 => ?_)
        · -- to 16
          refine r_al aX3_goOnOnce_16 rfl ?_
          refine r_getR aX3_goOnOnce_17 hq.1 rfl ?_
          refine r_il aX3_goOnOnce_20 rfl ?_
          refine r_xI aX3_goOnOnce_21 hq.2.1 (by omega) e1 ?_
          refine r_is4 aX3_goOnOnce_22 rfl ?_
          refine r_al aX3_goOnOnce_24 rfl ?_
          refine r_getR aX3_goOnOnce_25 hq.1 rfl ?_
          refine r_il aX3_goOnOnce_28 rfl ?_
          refine r_xL aX3_goOnOnce_29 hq.2.2.2.1 (by omega) e3 ?_
          refine r_ls5 aX3_goOnOnce_30 rfl ?_
          refine r_al aX3_goOnOnce_32 rfl ?_
          refine r_getR aX3_goOnOnce_33 rfl rfl ?_
          refine r_il aX3_goOnOnce_36 rfl ?_
          refine r_VZ1 aX3_goOnOnce_38 vX2_goesOn rfl (K_X2_goesOn hW hR) (fun x38 h38 Q38 => ?_)
          rw [Q38.1]
          refine r_b_ne aX3_goOnOnce_41 (fun c41 => ?_) (fun c41 => ?_)
          · -- to 68
            refine r_al aX3_goOnOnce_68 rfl ?_
            refine r_getR aX3_goOnOnce_69 hq.1 rfl ?_
            refine r_il aX3_goOnOnce_72 rfl ?_
            refine r_xI aX3_goOnOnce_73 hq.2.2.1 (by omega) e2 ?_
            refine r_ki aX3_goOnOnce_74 ?_
            refine r_n_lt aX3_goOnOnce_76 (by omega) (by omega) (fun c76 => ?_) (fun c76 => ?_)
            · -- to 95
              refine r_al aX3_goOnOnce_95 rfl ?_
              refine r_getR aX3_goOnOnce_96 rfl rfl ?_
              refine r_al aX3_goOnOnce_99 rfl ?_
              refine r_getR aX3_goOnOnce_100 rfl rfl ?_
              refine r_il aX3_goOnOnce_103 rfl ?_
              refine r_al aX3_goOnOnce_105 rfl ?_
              refine r_getR aX3_goOnOnce_106 hq.1 rfl ?_
              refine r_il aX3_goOnOnce_109 rfl ?_
              refine r_xI aX3_goOnOnce_110 hq.2.2.1 (by omega) e2 ?_
              refine r_ll aX3_goOnOnce_111 rfl ?_
              refine r_VV4 aX3_goOnOnce_113 vX1_divide rfl hK (fun h113 Q113 => ?_)
              obtain ⟨S2, F2⟩ := Q113
              have L2 := hL.fr F2 (fun a z => Or.inl (by have := z.2; omega))
              have j2 : h113.1 0 6 = bI jn := by rw [(F2 0 (fun z => by have := z.1; omega)).1]; exact hj
              refine r_al aX3_goOnOnce_116 rfl ?_
              refine r_gI aX3_goOnOnce_117 hq.1 rfl L2.1 ?_
              refine r_ki aX3_goOnOnce_120 ?_
              refine r_isubN aX3_goOnOnce_121 (by omega) ?_
              refine r_al aX3_goOnOnce_122 rfl ?_
              refine r_al aX3_goOnOnce_123 rfl ?_
              refine r_getR aX3_goOnOnce_124 rfl rfl ?_
              refine r_al aX3_goOnOnce_127 rfl ?_
              refine r_gI aX3_goOnOnce_128 rfl rfl j2 ?_
              refine r_VI2 aX3_goOnOnce_131 vX0_countNew hq.1 (K_X0_countNew hq hIW L2.1 L2.2.1 S2.1 S2.2.2 hS20 hl0) (fun x131 h131 Q131 => ?_)
              rw [Q131.1, Q131.2]
              refine r_iaddN aX3_goOnOnce_134 ?_
              refine r_ki aX3_goOnOnce_135 ?_
              refine r_n_le aX3_goOnOnce_137 hc1 hc2 (fun c137 => ?_) (fun c137 => ?_)
              · -- to 142
                refine r_al aX3_goOnOnce_142 rfl ?_
                refine r_il aX3_goOnOnce_143 rfl ?_
                refine r_VV1 aX3_goOnOnce_144 vX0_takeOut hq.1 (K_X0_takeOut hq hIW hi L2) (fun h144 Q144 => ?_)
                obtain ⟨L3, s3, t3, F3⟩ := Q144
                have S3 : SR h144 Sh := ⟨by rw [(F3 51 (fun z => by have := z.1; omega)).1]; exact S2.1, by rw [(F3 51 (fun z => by have := z.1; omega)).2]; exact S2.2.1, S2.2.2.cong (fun _ _ => by rw [(F3 52 (fun z => by have := z.1; omega)).1]) (fun _ _ => by rw [(F3 53 (fun z => by have := z.1; omega)).1]) (fun _ _ => by rw [(F3 54 (fun z => by have := z.1; omega)).2])⟩
                have j3 : h144.1 0 6 = bI jn := by rw [(F3 0 (fun z => by have := z.1; omega)).1]; exact j2
                refine r_al aX3_goOnOnce_147 rfl ?_
                refine r_al aX3_goOnOnce_148 rfl ?_
                refine r_getR aX3_goOnOnce_149 rfl rfl ?_
                refine r_al aX3_goOnOnce_152 rfl ?_
                refine r_gI aX3_goOnOnce_153 rfl rfl j3 ?_
                refine r_VV2 aX3_goOnOnce_156 vX0_putShares hq.1 (K_X0_putShares hq hql L3 (fun p hp => hIX.2.1 p (List.mem_of_mem_eraseIdx hp)) S3.1 S3.2.2 hS20 hl0 (by omega) (by omega)) (fun h156 Q156 => ?_)
                obtain ⟨L4, s4, t4, F4⟩ := Q156
                have u2 : h156.2 51 1 = lN (uSum Sh) := by rw [(F4 51 (fun z => by have := z.1; omega)).2]; exact S3.2.1
                refine r_al aX3_goOnOnce_159 rfl ?_
                refine r_il aX3_goOnOnce_160 rfl ?_
                refine r_ll aX3_goOnOnce_162 rfl ?_
                refine r_al aX3_goOnOnce_164 rfl ?_
                refine r_getR aX3_goOnOnce_165 rfl rfl ?_
                refine r_gL aX3_goOnOnce_168 rfl rfl u2 ?_
                refine r_lsubN aX3_goOnOnce_171 hS0 ?_
                refine r_VV2 aX3_goOnOnce_172 vX0_addLeft hq.1 (K_X0_addLeft hq (by omega) L4) (fun h172 Q172 => ?_)
                refine r_al aX3_goOnOnce_175 rfl ?_
                refine r_dup aX3_goOnOnce_176 rfl ?_
                refine r_gI (v := nI st) aX3_goOnOnce_177 hq.1 rfl (by rw [Q172.2.1, t4, t3, (F2 q (fun z => by have := z.2; omega)).1]; exact hst) ?_
                refine r_ki aX3_goOnOnce_180 ?_
                refine r_iaddN aX3_goOnOnce_181 ?_
                refine r_putI aX3_goOnOnce_182 hq.1 rfl rfl ?_
                refine r_ki aX3_goOnOnce_185 ?_
                refine r_zT hM aX3_goOnOnce_186 rfl ?_
                rw [if_neg (by omega)]
                exact ⟨rfl, Q172.1.st _, by rw [si_1]; simp; rw [Q172.2.1, s4, s3, (F2 q (fun z => by have := z.2; omega)).1], by rw [si_1]; simp, (F2.mono hsubS).tr ((((F3.tr F4).tr Q172.2.2).tr (Fr.si ⟨by omega, by omega⟩)).mono isub)⟩
              · -- to 140
                refine r_ki aX3_goOnOnce_140 ?_
                refine r_zF hM aX3_goOnOnce_141 rfl ?_
                rw [if_pos (by omega)]
                exact ⟨rfl, L2, by rw [(F2 q (fun z => by have := z.2; omega)).1], by rw [(F2 q (fun z => by have := z.2; omega)).1]; exact hst, F2.mono hsubS⟩
            · omega
          · exact absurd (Q38.2.mpr ⟨_, hm.1, rfl, ho⟩) (by rw [c41]; decide)
        · exact absurd (Q8.2.mpr ⟨i, hi, rfl⟩) (by rw [c11]; decide)
end GO

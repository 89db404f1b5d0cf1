/-! of kit/laws/BITS.to-paste -/
theorem wb_tb (n : Nat) : (lN n).toBitVec = BitVec.ofNat 64 n := rfl
theorem wb_inj {a b : Int64} (h : a.toBitVec = b.toBitVec) : a = b := Int64.toBitVec_inj.mp h
theorem wb_c : ∀ k, k < 64 → ((nI k).toInt64 &&& 63) = lN k := by decide +kernel
theorem wb_sm : ∀ k, k < 64 → (BitVec.ofNat 64 k).smod 64 = BitVec.ofNat 64 k := by decide +kernel
theorem wb_shl (n : Nat) {k : Nat} (hk : k < 64) : lN n <<< ((nI k).toInt64 &&& 63) = lN (n * 2 ^ k) := by
  rw [wb_c k hk]
  apply wb_inj
  rw [Int64.toBitVec_shiftLeft, wb_tb, wb_tb, wb_tb, wb_sm k hk]
  apply BitVec.eq_of_toNat_eq
  rw [BitVec.shiftLeft_eq', BitVec.toNat_shiftLeft, BitVec.toNat_ofNat, BitVec.toNat_ofNat, BitVec.toNat_ofNat, Nat.mod_eq_of_lt (show k < 2 ^ 64 by omega), Nat.shiftLeft_eq, Nat.mul_mod, Nat.mod_mod, ← Nat.mul_mod]
theorem shl1 (r : Nat) : lN r <<< ((nI 1).toInt64 &&& 63) = lN (2 * r) := by rw [wb_shl r (by omega), Nat.pow_one, Nat.mul_comm]
theorem ishl1 {p : Nat} (h : p < 1073741824) : nI p <<< (nI 1 &&& 31) = nI (2 * p) := by
  rw [pk_shlN (nI 1 &&& 31) 1 (by decide +kernel) (by omega), Nat.pow_one, Nat.mul_comm]
section CLASS1
variable {ad : Nat → Nat} {h : Mem} {w : Wk} {q : Nat} {ℓ : Lst} {jn : Bool}
theorem K_X3_low {x : Int32} (hq : IsL q) (hW : WW w) (hR : WR h w) (hV : SV h w) (hL : LR h q ℓ.1 ℓ.2.1 ℓ.2.2) : Con ad mX3_low [.ref (ad 0), .ref (ad q), .int x] h (qL fun y h' => h' = h ∧ y = lN (lo w ℓ x)) := by
  have hn := hR.1
  have h20 := hW.n
  refine Con.mk vX3_low.1 vX3_low.2.2.2.2 [some (.ref (ad 0)), some (.ref (ad q)), some (.int x), none, none, none] rfl (Nat.le_of_ble_eq_true rfl) (fun Y hM => ?_)
  have loop : ∀ (k s : Nat), w.1 - s = k → s ≤ w.1 → G Y ad mX3_low 9 [some (.ref (ad 0)), some (.ref (ad q)), some (.int x), some (.long (lN (loU w ℓ x s))), none, some (.int (nI s))] [] h := by
    intro k
    induction k with
    | zero =>
      intro s hk hs
      have e : s = w.1 := by omega
      subst e
      refine r_il aX3_low_9 rfl ?_
      refine r_al aX3_low_11 rfl ?_
      refine r_getR aX3_low_12 rfl rfl ?_
      refine r_gI aX3_low_15 rfl rfl hn ?_
      refine r_n_ge aX3_low_18 (by omega) (by omega) (fun c18 => ?_) (fun c18 => ?_)
      · -- to 50
        refine r_ll aX3_low_50 rfl ?_
        exact r_lret hM aX3_low_51 rfl ⟨rfl, rfl⟩
      · omega
    | succ k ih =>
      intro s hk hs
      have hw : h.2 (q + 6) s = lN (ℓ.2.2 s + opAt ℓ.1 s) := by have := hL.2.2.2.2 s (by omega); rwa [n0] at this
      have key := ih (s + 1) (by omega) (by omega)
      rw [loU] at key
      refine r_il aX3_low_9 rfl ?_
      refine r_al aX3_low_11 rfl ?_
      refine r_getR aX3_low_12 rfl rfl ?_
      refine r_gI aX3_low_15 rfl rfl hn ?_
      refine r_n_ge aX3_low_18 (by omega) (by omega) (fun c18 => ?_) (fun c18 => ?_)
      · omega
      · -- to 21
        refine r_al aX3_low_21 rfl ?_
        refine r_getR aX3_low_22 rfl rfl ?_
        refine r_il aX3_low_25 rfl ?_
        refine r_il aX3_low_27 rfl ?_
        refine r_VZ2 aX3_low_28 vX2_endsWithin rfl (K_X2_endsWithin hW hV (by omega)) (fun x28 h28 Q28 => ?_)
        rw [Q28.1]
        refine r_b_eq aX3_low_31 (fun c31 => ?_) (fun c31 => ?_)
        · -- to 44
          refine r_in5 aX3_low_44 rfl ?_
          refine r_go aX3_low_47 ?_
          rw [← Q28.2, c31] at key
          exact key
        · -- to 34
          refine r_ll aX3_low_34 rfl ?_
          refine r_al aX3_low_35 rfl ?_
          refine r_getR aX3_low_36 hq.1 rfl ?_
          refine r_il aX3_low_39 rfl ?_
          refine r_xL aX3_low_41 hq.2.2.2.2.2.2 (by omega) hw ?_
          refine r_laddN aX3_low_42 ?_
          refine r_ls3 aX3_low_43 rfl ?_
          refine r_in5 aX3_low_44 rfl ?_
          refine r_go aX3_low_47 ?_
          rw [← Q28.2, c31] at key
          exact key
  refine r_al aX3_low_0 rfl ?_
  refine r_il aX3_low_1 rfl ?_
  refine r_VL1 aX3_low_2 vX0_endedIn hq.1 (K_X0_endedIn hq hL.2.2.1) (fun x2 h2 Q2 => ?_)
  rw [Q2.1, Q2.2]
  refine r_ls3 aX3_low_5 rfl ?_
  refine r_ki aX3_low_6 ?_
  refine r_is5 aX3_low_7 rfl ?_
  exact loop _ 0 rfl (by omega)
theorem K_X3_high {x : Int32} (hq : IsL q) (hW : WW w) (hR : WR h w) (hV : SV h w) (hL : LR h q ℓ.1 ℓ.2.1 ℓ.2.2) : Con ad mX3_high [.ref (ad 0), .ref (ad q), .int x] h (qL fun y h' => h' = h ∧ y = lN (hi w ℓ x)) := by
  have hn := hR.1
  have h20 := hW.n
  refine Con.mk vX3_high.1 vX3_high.2.2.2.2 [some (.ref (ad 0)), some (.ref (ad q)), some (.int x), none, none, none] rfl (Nat.le_of_ble_eq_true rfl) (fun Y hM => ?_)
  have loop : ∀ (k s : Nat), w.1 - s = k → s ≤ w.1 → G Y ad mX3_high 9 [some (.ref (ad 0)), some (.ref (ad q)), some (.int x), some (.long (lN (hiU w ℓ x s))), none, some (.int (nI s))] [] h := by
    intro k
    induction k with
    | zero =>
      intro s hk hs
      have e : s = w.1 := by omega
      subst e
      refine r_il aX3_high_9 rfl ?_
      refine r_al aX3_high_11 rfl ?_
      refine r_getR aX3_high_12 rfl rfl ?_
      refine r_gI aX3_high_15 rfl rfl hn ?_
      refine r_n_ge aX3_high_18 (by omega) (by omega) (fun c18 => ?_) (fun c18 => ?_)
      · -- to 52
        refine r_ll aX3_high_52 rfl ?_
        exact r_lret hM aX3_high_53 rfl ⟨rfl, rfl⟩
      · omega
    | succ k ih =>
      intro s hk hs
      have hw : h.2 (q + 6) s = lN (ℓ.2.2 s + opAt ℓ.1 s) := by have := hL.2.2.2.2 s (by omega); rwa [n0] at this
      have hr := hV.2.1 s (by omega)
      have key := ih (s + 1) (by omega) (by omega)
      rw [hiU] at key
      refine r_il aX3_high_9 rfl ?_
      refine r_al aX3_high_11 rfl ?_
      refine r_getR aX3_high_12 rfl rfl ?_
      refine r_gI aX3_high_15 rfl rfl hn ?_
      refine r_n_ge aX3_high_18 (by omega) (by omega) (fun c18 => ?_) (fun c18 => ?_)
      · omega
      · -- to 21
        refine r_al aX3_high_21 rfl ?_
        refine r_getR aX3_high_22 rfl rfl ?_
        refine r_getR aX3_high_25 rfl rfl ?_
        refine r_il aX3_high_28 rfl ?_
        refine r_xI aX3_high_30 rfl (by omega) hr ?_
        refine r_il aX3_high_31 rfl ?_
        refine r_iand aX3_high_32 ?_
        refine r_z_eq aX3_high_33 (fun c33 => ?_) (fun c33 => ?_)
        · -- to 46
          refine r_in5 aX3_high_46 rfl ?_
          refine r_go aX3_high_49 ?_
          rw [if_pos c33] at key
          exact key
        · -- to 36
          refine r_ll aX3_high_36 rfl ?_
          refine r_al aX3_high_37 rfl ?_
          refine r_getR aX3_high_38 hq.1 rfl ?_
          refine r_il aX3_high_41 rfl ?_
          refine r_xL aX3_high_43 hq.2.2.2.2.2.2 (by omega) hw ?_
          refine r_laddN aX3_high_44 ?_
          refine r_ls3 aX3_high_45 rfl ?_
          refine r_in5 aX3_high_46 rfl ?_
          refine r_go aX3_high_49 ?_
          rw [if_neg c33] at key
          exact key
  refine r_al aX3_high_0 rfl ?_
  refine r_il aX3_high_1 rfl ?_
  refine r_VL1 aX3_high_2 vX0_endedIn hq.1 (K_X0_endedIn hq hL.2.2.1) (fun x2 h2 Q2 => ?_)
  rw [Q2.1, Q2.2]
  refine r_ls3 aX3_high_5 rfl ?_
  refine r_ki aX3_high_6 ?_
  refine r_is5 aX3_high_7 rfl ?_
  exact loop _ 0 rfl (by omega)
theorem K_X3_width {x : Int32} (hq : IsL q) (hW : WW w) (hR : WR h w) (hV : SV h w) (hL : LR h q ℓ.1 ℓ.2.1 ℓ.2.2) : Con ad mX3_width [.ref (ad 0), .ref (ad q), .int x] h (qL fun y h' => h' = h ∧ y = wid w ℓ x) := by
  refine Con.mk vX3_width.1 vX3_width.2.2.2.2 [some (.ref (ad 0)), some (.ref (ad q)), some (.int x)] rfl (Nat.le_of_ble_eq_true rfl) (fun Y hM => ?_)
  refine r_al aX3_width_0 rfl ?_
  refine r_al aX3_width_1 rfl ?_
  refine r_il aX3_width_2 rfl ?_
  refine r_VL2 aX3_width_3 vX3_high rfl (K_X3_high hq hW hR hV hL) (fun x3 h3 Q3 => ?_)
  rw [Q3.1, Q3.2]
  refine r_al aX3_width_6 rfl ?_
  refine r_al aX3_width_7 rfl ?_
  refine r_il aX3_width_8 rfl ?_
  refine r_VL2 aX3_width_9 vX3_low rfl (K_X3_low hq hW hR hV hL) (fun x9 h9 Q9 => ?_)
  rw [Q9.1, Q9.2]
  refine r_lsub aX3_width_12 ?_
  exact r_lret hM aX3_width_13 rfl ⟨rfl, rfl⟩
theorem SV.fr {h h' : Mem} {w : Wk} {P : Nat → Prop} (H : SV h w) (hf : Fr P h h') (hp : ∀ a, P a → a < 48 ∨ 51 ≤ a) : SV h' w := by
  have e : ∀ k, 48 ≤ k → k < 51 → h'.1 k = h.1 k := fun k h1 h2 => (hf k (fun z => by rcases hp k z with y | y <;> omega)).1
  obtain ⟨a, b, c⟩ := H
  exact ⟨fun s hs t ht => by rw [e 48 (by omega) (by omega)]; exact a s hs t ht, fun s hs => by rw [e 49 (by omega) (by omega)]; exact b s hs, fun s hs => by rw [e 50 (by omega) (by omega)]; exact c s hs⟩
theorem K_X3_goOnTimes {kind n st : Nat} (hq : IsL q) (hql : 55 ≤ q) (hW : WW w) (hR : WR h w) (hL : LR h q ℓ.1 ℓ.2.1 ℓ.2.2) (hI : LI w ℓ) (hj : h.1 0 6 = bI jn) (hk : kind ≤ 2) (hst : h.1 q 1 = nI st) (hn : n ≤ 500) : Con ad mX3_goOnTimes [.ref (ad 0), .ref (ad q), .int (nI kind), .int (nI n)] h (qI fun x h' => x = nI (goN w jn kind n ℓ).1 ∧ LR h' q (goN w jn kind n ℓ).2.1 (goN w jn kind n ℓ).2.2.1 (goN w jn kind n ℓ).2.2.2 ∧ h'.1 q 0 = h.1 q 0 ∧ h'.1 q 1 = nI (st + (goN w jn kind n ℓ).1) ∧ Fr (inLS q) h h') := by
  refine Con.mk vX3_goOnTimes.1 vX3_goOnTimes.2.2.2.2 [some (.ref (ad 0)), some (.ref (ad q)), some (.int (nI kind)), some (.int (nI n)), none] rfl (Nat.le_of_ble_eq_true rfl) (fun Y hM => ?_)
  have loop : ∀ (k i : Nat) (g : Mem) (m : Lst), n - i = k → i ≤ n → goN w jn kind n ℓ = (i + (goN w jn kind k m).1, (goN w jn kind k m).2) → LR g q m.1 m.2.1 m.2.2 → LI w m → g.1 q 0 = h.1 q 0 → g.1 q 1 = nI (st + i) → Fr (inLS q) h g → G Y ad mX3_goOnTimes 3 [some (.ref (ad 0)), some (.ref (ad q)), some (.int (nI kind)), some (.int (nI n)), some (.int (nI i))] [] g := by
    intro k
    induction k with
    | zero =>
      intro i g m hk0 hi hE hLg hIg g0 g1 hF
      have e : i = n := by omega
      subst e
      refine r_il aX3_goOnTimes_3 rfl ?_
      refine r_il aX3_goOnTimes_5 rfl ?_
      refine r_n_ge aX3_goOnTimes_6 (by omega) (by omega) (fun c6 => ?_) (fun c6 => ?_)
      · -- to 27
        refine r_il aX3_goOnTimes_27 rfl ?_
        refine r_iret hM aX3_goOnTimes_28 rfl ?_
        rw [hE]
        exact ⟨rfl, hLg, g0, g1, hF⟩
      · omega
    | succ k ih =>
      intro i g m hk0 hi hE hLg hIg g0 g1 hF
      have hRg := hR.fr hF (fun a z => z.elim (fun z => Or.inl (by have := z.1; omega)) (fun z => Or.inl (by have := z.1; omega)))
      have hjg : g.1 0 6 = bI jn := by rw [(hF 0 (fun z => z.elim (fun z => by have := z.1; omega) (fun z => by have := z.1; omega))).1]; exact hj
      refine r_il aX3_goOnTimes_3 rfl ?_
      refine r_il aX3_goOnTimes_5 rfl ?_
      refine r_n_ge aX3_goOnTimes_6 (by omega) (by omega) (fun c6 => ?_) (fun c6 => ?_)
      · omega
      · -- to 9
        refine r_al aX3_goOnTimes_9 rfl ?_
        refine r_al aX3_goOnTimes_10 rfl ?_
        refine r_il aX3_goOnTimes_11 rfl ?_
        refine r_VZ2 aX3_goOnTimes_12 vX3_goOnOnce rfl (K_X3_goOnOnce hq hql hW hRg hLg hIg hjg hk g1) (fun x12 h12 Q12 => ?_)
        obtain ⟨q1, q2, q3, q4, q5⟩ := Q12
        refine r_b_ne aX3_goOnTimes_15 (fun c15 => ?_) (fun c15 => ?_)
        · -- to 21
          refine r_in4 aX3_goOnTimes_21 rfl ?_
          refine r_go aX3_goOnTimes_24 ?_
          rw [q1] at c15
          rw [goN] at hE
          cases hg : goS w jn kind m with
          | none => rw [hg] at c15; cases c15
          | some m' =>
            rw [hg] at hE q2 q4
            exact ih (i + 1) h12 m' (by omega) (by omega) (by rw [hE]; dsimp only; rw [show i + 1 + (goN w jn kind k m').1 = i + ((goN w jn kind k m').1 + 1) by omega]) q2 (goS_li hW hIg hg) (q3.trans g0) (by rw [q4]; rfl) (hF.tr q5)
        · -- to 18
          refine r_il aX3_goOnTimes_18 rfl ?_
          refine r_iret hM aX3_goOnTimes_20 rfl ?_
          rw [q1] at c15
          rw [goN] at hE
          cases hg : goS w jn kind m with
          | some m' => rw [hg] at c15; cases c15
          | none =>
            rw [hg] at hE q2 q4
            rw [hE]
            exact ⟨rfl, q2, q3.trans g0, q4, hF.tr q5⟩
  refine r_ki aX3_goOnTimes_0 ?_
  refine r_is4 aX3_goOnTimes_1 rfl ?_
  exact loop n 0 h ℓ rfl (by omega) (by rw [Nat.zero_add]) hL hI rfl hst Fr.rf
theorem K_X3_trialWidth {σ : Sta} {kind n s : Nat} {x : Int32} (hw : σ.1 = w) (hW : WW w) (hR : WR h w) (hV : SV h w) (hj : h.1 0 6 = bI σ.2.2.1) (hs : h.1 55 0 = nI s) (hsn : s < w.1) (hk : kind ≤ 2) (hn : n ≤ 500) : Con ad mX3_trialWidth [.ref (ad 0), .int (nI kind), .int x, .int (nI n)] h (qL fun y h' => y = triW σ s x n kind ∧ Fr (inLS 62) h h') := by
  have h20 := hW.n
  have inl : ∀ a, inL 62 a → inLS 62 a := fun a z => Or.inl z
  subst hw
  refine Con.mk vX3_trialWidth.1 vX3_trialWidth.2.2.2.2 [some (.ref (ad 0)), some (.int (nI kind)), some (.int x), some (.int (nI n))] rfl (Nat.le_of_ble_eq_true rfl) (fun Y hM => ?_)
  refine r_al aX3_trialWidth_0 rfl ?_
  refine r_getR aX3_trialWidth_1 rfl rfl ?_
  refine r_al aX3_trialWidth_4 rfl ?_
  refine r_getR aX3_trialWidth_5 rfl rfl ?_
  refine r_gI aX3_trialWidth_8 rfl rfl hs ?_
  refine r_VV1 aX3_trialWidth_11 vX0_beginAt rfl (K_X0_beginAt isL62 (by omega)) (fun h11 Q11 => ?_)
  obtain ⟨L1, s1, t1, F1⟩ := Q11
  have R1 := hR.fr F1 (fun a z => Or.inl (by have := z.1; omega))
  have j1 : h11.1 0 6 = bI σ.2.2.1 := by rw [(F1 0 (fun z => by have := z.1; omega)).1]; exact hj
  refine r_al aX3_trialWidth_14 rfl ?_
  refine r_al aX3_trialWidth_15 rfl ?_
  refine r_getR aX3_trialWidth_16 rfl rfl ?_
  refine r_il aX3_trialWidth_19 rfl ?_
  refine r_il aX3_trialWidth_20 rfl ?_
  refine r_VI3 aX3_trialWidth_21 vX3_goOnTimes rfl (K_X3_goOnTimes (ℓ := begL s) isL62 (by omega) hW R1 L1 (begL_li hsn) j1 hk t1 hn) (fun x21 h21 Q21 => ?_)
  obtain ⟨e1, L2, s2, t2, F2⟩ := Q21
  have F3 := (F1.mono inl).tr F2
  have R2 := hR.fr F3 (fun a z => z.elim (fun z => Or.inl (by have := z.1; omega)) (fun z => Or.inl (by have := z.1; omega)))
  have V2 := hV.fr F3 (fun a z => z.elim (fun z => Or.inr (by have := z.1; omega)) (fun z => Or.inr (by have := z.1; omega)))
  refine r_pop aX3_trialWidth_24 rfl ?_
  refine r_al aX3_trialWidth_25 rfl ?_
  refine r_al aX3_trialWidth_26 rfl ?_
  refine r_getR aX3_trialWidth_27 rfl rfl ?_
  refine r_il aX3_trialWidth_30 rfl ?_
  refine r_VL2 aX3_trialWidth_31 vX3_width rfl (K_X3_width isL62 hW R2 V2 L2) (fun x31 h31 Q31 => ?_)
  rw [Q31.1, Q31.2]
  exact r_lret hM aX3_trialWidth_34 rfl ⟨rfl, F3⟩
theorem pl_lt (all : Nat) : ∀ (k p r : Nat), r < all → (pl all k (p, r)).2 < all ∧ (pl all k (p, r)).1 < (p + 1) * 2 ^ k
  | 0, p, r, h => ⟨h, by show p < (p + 1) * 2 ^ 0; omega⟩
  | k + 1, p, r, h => by
    unfold pl
    dsimp only
    by_cases z : all ≤ 2 * r
    · rw [if_pos z]
      have := pl_lt all k (2 * p + 1) (2 * r - all) (by omega)
      refine ⟨this.1, Nat.lt_of_lt_of_le this.2 ?_⟩
      rw [Nat.pow_succ, show (2 * p + 1 + 1) = (p + 1) * 2 by omega, Nat.mul_assoc, Nat.mul_comm 2]
      exact Nat.le_refl _
    · rw [if_neg z]
      have := pl_lt all k (2 * p) (2 * r) (by omega)
      refine ⟨this.1, Nat.lt_of_lt_of_le this.2 ?_⟩
      rw [Nat.pow_succ, Nat.mul_comm (2 ^ k) 2, ← Nat.mul_assoc]
      exact Nat.mul_le_mul_right _ (by omega)
theorem K_X3_partOf {sh all : Nat} {up : Bool} (h1 : sh < 2 ^ 61) (h2 : all < 2 ^ 62) (h0 : 0 < all) : Con ad mX3_partOf [.long (lN sh), .long (lN all), .int (bI up)] h (qI fun x h' => h' = h ∧ x = ptA sh all up) := by
  obtain ⟨T, hT⟩ : ∃ T, T = pl all 30 (0, sh) := ⟨_, rfl⟩
  have e0 : ptA sh all up = if all ≤ sh then nI 1073741824 else if up = true ∧ 0 < T.2 then nI (T.1 + 1) else nI T.1 := by unfold ptA; rw [← hT]
  rw [e0]
  refine Con.mk vX3_partOf.1 vX3_partOf.2.2.2 [some (.long (lN sh)), none, some (.long (lN all)), none, some (.int (bI up)), none, none, none, none] rfl (Nat.le_of_ble_eq_true rfl) (fun Y hM => ?_)
  have loop : ∀ (k i p r : Nat), 30 - i = k → i ≤ 30 → sh < all → r < all → p < 2 ^ i → pl all k (p, r) = T → G Y ad mX3_partOf 18 [some (.long (lN sh)), none, some (.long (lN all)), none, some (.int (bI up)), some (.int (nI p)), some (.long (lN r)), none, some (.int (nI i))] [] h := by
    intro k
    induction k with
    | zero =>
      intro i p r hk hi hlt hr hp hE
      have e : i = 30 := by omega
      subst e
      have e1 : T = (p, r) := hE.symm
      rw [if_neg (by omega), e1] at hM
      refine r_il aX3_partOf_18 rfl ?_
      refine r_ki aX3_partOf_20 ?_
      refine r_n_ge aX3_partOf_22 (by omega) (by omega) (fun c22 => ?_) (fun c22 => ?_)
      · -- to 59
        refine r_il aX3_partOf_59 rfl ?_
        refine r_b_eq aX3_partOf_61 (fun c61 => ?_) (fun c61 => ?_)
        · -- to 78
          refine r_il aX3_partOf_78 rfl ?_
          exact r_iret hM aX3_partOf_80 rfl ⟨rfl, by rw [c61]; rfl⟩
        · -- to 64
          refine r_ll aX3_partOf_64 rfl ?_
          refine r_kl aX3_partOf_66 ?_
          refine r_m_le aX3_partOf_67 aX3_partOf_68 (by omega) (by omega) (fun c67 => ?_) (fun c67 => ?_)
          · -- to 78
            refine r_il aX3_partOf_78 rfl ?_
            exact r_iret hM aX3_partOf_80 rfl ⟨rfl, by rw [if_neg (by omega)]⟩
          · -- to 71
            refine r_il aX3_partOf_71 rfl ?_
            refine r_ki aX3_partOf_73 ?_
            refine r_iaddN aX3_partOf_74 ?_
            refine r_go aX3_partOf_75 ?_
            exact r_iret hM aX3_partOf_80 rfl ⟨rfl, by rw [if_pos ⟨c61, c67⟩]⟩
      · omega
    | succ k ih =>
      intro i p r hk hi hlt hr hp hE
      have hpi : 2 ^ i < 1073741824 := Nat.lt_of_lt_of_le (Nat.pow_lt_pow_right (by decide) (by omega : i < 30)) (by decide)
      have hp2 : 2 * p + 1 < 2 ^ (i + 1) := by rw [Nat.pow_succ]; omega
      unfold pl at hE
      dsimp only at hE
      refine r_il aX3_partOf_18 rfl ?_
      refine r_ki aX3_partOf_20 ?_
      refine r_n_ge aX3_partOf_22 (by omega) (by omega) (fun c22 => ?_) (fun c22 => ?_)
      · omega
      · -- to 25
        refine r_ll aX3_partOf_25 rfl ?_
        refine r_ki aX3_partOf_27 ?_
        refine r_lshl aX3_partOf_28 ?_
        refine r_tl (shl1 r) ?_
        refine r_ls6 aX3_partOf_29 rfl ?_
        refine r_il aX3_partOf_31 rfl ?_
        refine r_ki aX3_partOf_33 ?_
        refine r_ishl aX3_partOf_34 ?_
        refine r_ti (ishl1 (by omega)) ?_
        refine r_is5 aX3_partOf_35 rfl ?_
        refine r_ll aX3_partOf_37 rfl ?_
        refine r_ll aX3_partOf_39 rfl ?_
        refine r_m_lt aX3_partOf_40 aX3_partOf_41 (by omega) (by omega) (fun c40 => ?_) (fun c40 => ?_)
        · -- to 53
          refine r_in8 aX3_partOf_53 rfl ?_
          refine r_go aX3_partOf_56 ?_
          rw [if_neg (by omega)] at hE
          exact ih (i + 1) _ _ (by omega) (by omega) hlt (by omega) (by omega) hE
        · -- to 44
          refine r_ll aX3_partOf_44 rfl ?_
          refine r_ll aX3_partOf_46 rfl ?_
          refine r_lsubN aX3_partOf_47 (by omega) ?_
          refine r_ls6 aX3_partOf_48 rfl ?_
          refine r_in5 aX3_partOf_50 rfl ?_
          refine r_in8 aX3_partOf_53 rfl ?_
          refine r_go aX3_partOf_56 ?_
          rw [if_pos (by omega)] at hE
          exact ih (i + 1) _ _ (by omega) (by omega) hlt (by omega) (by omega) hE
  refine r_ll aX3_partOf_0 rfl ?_
  refine r_ll aX3_partOf_1 rfl ?_
  refine r_m_lt aX3_partOf_2 aX3_partOf_3 (by omega) (by omega) (fun c2 => ?_) (fun c2 => ?_)
  · -- to 9
    refine r_ki aX3_partOf_9 ?_
    refine r_is5 aX3_partOf_10 rfl ?_
    refine r_ll aX3_partOf_12 rfl ?_
    refine r_ls6 aX3_partOf_13 rfl ?_
    refine r_ki aX3_partOf_15 ?_
    refine r_is8 aX3_partOf_16 rfl ?_
    exact loop 30 0 0 sh rfl (by omega) c2 c2 (by decide) hT.symm
  · -- to 6
    refine r_ki aX3_partOf_6 ?_
    exact r_iret hM aX3_partOf_8 rfl ⟨rfl, by rw [if_pos c2]⟩
theorem K_X3_leastPart {sh ot : Nat} (h1 : sh < 2 ^ 61) (h2 : ot < 2 ^ 61) : Con ad mX3_leastPart [.long (lN sh), .long (lN ot)] h (qI fun x h' => h' = h ∧ x = if sh + ot = 0 then nI 0 else ptA sh (sh + ot) false) := by
  refine Con.mk vX3_leastPart.1 vX3_leastPart.2.2.2 [some (.long (lN sh)), none, some (.long (lN ot)), none, none, none] rfl (Nat.le_of_ble_eq_true rfl) (fun Y hM => ?_)
  refine r_ll aX3_leastPart_0 rfl ?_
  refine r_ll aX3_leastPart_1 rfl ?_
  refine r_laddN aX3_leastPart_2 ?_
  refine r_ls4 aX3_leastPart_3 rfl ?_
  refine r_ll aX3_leastPart_5 rfl ?_
  refine r_kl aX3_leastPart_7 ?_
  refine r_m_gt aX3_leastPart_8 aX3_leastPart_9 (by omega) (by omega) (fun c8 => ?_) (fun c8 => ?_)
  · -- to 16
    refine r_ll aX3_leastPart_16 rfl ?_
    refine r_ll aX3_leastPart_17 rfl ?_
    refine r_ki aX3_leastPart_19 ?_
    refine r_ti (v := bI false) rfl ?_
    refine r_SI3 aX3_leastPart_20 vX3_partOf (K_X3_partOf h1 (by omega) (by omega)) (fun x20 h20 Q20 => ?_)
    rw [Q20.1, Q20.2]
    exact r_iret hM aX3_leastPart_23 rfl ⟨rfl, by rw [if_neg (by omega)]⟩
  · -- to 12
    refine r_ki aX3_leastPart_12 ?_
    refine r_go aX3_leastPart_13 ?_
    exact r_iret hM aX3_leastPart_23 rfl ⟨rfl, by rw [if_pos (by omega)]⟩
theorem K_X3_greatestPart {sh ot : Nat} (h1 : sh < 2 ^ 61) (h2 : ot < 2 ^ 61) : Con ad mX3_greatestPart [.long (lN sh), .long (lN ot)] h (qI fun x h' => h' = h ∧ x = if sh + ot = 0 then nI 1073741824 else ptA sh (sh + ot) true) := by
  refine Con.mk vX3_greatestPart.1 vX3_greatestPart.2.2.2 [some (.long (lN sh)), none, some (.long (lN ot)), none, none, none] rfl (Nat.le_of_ble_eq_true rfl) (fun Y hM => ?_)
  refine r_ll aX3_greatestPart_0 rfl ?_
  refine r_ll aX3_greatestPart_1 rfl ?_
  refine r_laddN aX3_greatestPart_2 ?_
  refine r_ls4 aX3_greatestPart_3 rfl ?_
  refine r_ll aX3_greatestPart_5 rfl ?_
  refine r_kl aX3_greatestPart_7 ?_
  refine r_m_gt aX3_greatestPart_8 aX3_greatestPart_9 (by omega) (by omega) (fun c8 => ?_) (fun c8 => ?_)
  · -- to 17
    refine r_ll aX3_greatestPart_17 rfl ?_
    refine r_ll aX3_greatestPart_18 rfl ?_
    refine r_ki aX3_greatestPart_20 ?_
    refine r_ti (v := bI true) rfl ?_
    refine r_SI3 aX3_greatestPart_21 vX3_partOf (K_X3_partOf h1 (by omega) (by omega)) (fun x21 h21 Q21 => ?_)
    rw [Q21.1, Q21.2]
    exact r_iret hM aX3_greatestPart_24 rfl ⟨rfl, by rw [if_neg (by omega)]⟩
  · -- to 12
    refine r_ki aX3_greatestPart_12 ?_
    refine r_go aX3_greatestPart_14 ?_
    exact r_iret hM aX3_greatestPart_24 rfl ⟨rfl, by rw [if_pos (by omega)]⟩
end CLASS1

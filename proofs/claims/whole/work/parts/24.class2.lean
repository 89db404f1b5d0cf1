/-! the class: what it holds -/
def LO (h : Mem) (q : Nat) (o : Option LL) : Prop := match o with
  | none => h.1 q 0 = -1 ∧ h.1 q 1 = nI 0 ∧ h.1 q 2 = nI 0
  | some l => h.1 q 0 = nI l.1 ∧ h.1 q 1 = nI l.2.1 ∧ LR h q l.2.2.1 l.2.2.2.1 l.2.2.2.2
def act (σ : Sta) : Prop := σ.2.2.2.1 ≠ none ∨ ∃ k, k < 3 ∧ σ.2.2.2.2 k ≠ none
def CRep (h : Mem) (σ : Sta) : Prop := WR h σ.1 ∧ h.1 0 5 = nI σ.2.1 ∧ h.1 0 6 = bI σ.2.2.1 ∧ LO h 55 σ.2.2.2.1 ∧ (∀ k, k < 3 → LO h (70 + 7 * k) (σ.2.2.2.2 k)) ∧ (act σ → SV h σ.1)
theorem LO.fr {h h' : Mem} {q : Nat} {o : Option LL} {P : Nat → Prop} (H : LO h q o) (hf : Fr P h h') (hp : ∀ a, P a → a < q ∨ q + 7 ≤ a) : LO h' q o := by
  have e : h'.1 q = h.1 q := (hf q (fun z => by rcases hp q z with y | y <;> omega)).1
  cases o with
  | none => unfold LO at H ⊢; dsimp only at H ⊢; rw [e]; exact H
  | some l => unfold LO at H ⊢; dsimp only at H ⊢; rw [e]; exact ⟨H.1, H.2.1, H.2.2.fr hf hp⟩
theorem isLk : ∀ k, k < 3 → IsL (70 + 7 * k) := by
  intro k hk
  rcases (by omega : k = 0 ∨ k = 1 ∨ k = 2) with rfl | rfl | rfl
  · exact isL70
  · exact isL77
  · exact isL84
theorem inN_lt0 {x : Int32} {n : Nat} (h : x < 0) : inN x n = none := by unfold inN; rw [if_neg (fun z => z.1 h)]
theorem inN_ge {x : Int32} {n : Nat} (h : nI n ≤ x) : inN x n = none := by unfold inN; rw [if_neg (fun z => z.2 h)]
theorem inN_gt {x : Int32} {n : Nat} (h : nI n < x) (hn : n < 2147483647) : inN x (n + 1) = none := by
  apply inN_ge
  rw [Int32.lt_iff_toInt_lt, nI_toInt (by omega)] at h
  rw [Int32.le_iff_toInt_le, nI_toInt (by omega)]
  omega
theorem inN_in {x : Int32} {n : Nat} (h0 : ¬ x < 0) (h : ¬ nI n ≤ x) : (inN x n).isSome = true := by unfold inN; rw [if_pos ⟨h0, h⟩]; rfl
theorem inN_le {x : Int32} {n : Nat} (h0 : ¬ x < 0) (h : ¬ nI n < x) (hn : n < 2147483647) : (inN x (n + 1)).isSome = true := by
  apply inN_in h0
  rw [Int32.lt_iff_toInt_lt, nI_toInt (by omega)] at h
  rw [Int32.le_iff_toInt_le, nI_toInt (by omega)]
  omega
theorem inN_nI {j n : Nat} (h : j < n) (hn : n < 2147483648) : inN (nI j) n = some j := (inN_s hn).mpr ⟨h, rfl⟩
theorem aIx_addA (t k : Nat) : ∀ (l : List (Nat × Nat)) (o i : Nat), aIx t l o = some i → addA t k l = l.set (i - o) (t, wt t l + k)
  | [], o, i, h => by simp [aIx] at h
  | p :: r, o, i, h => by
    unfold aIx at h
    unfold addA wt
    by_cases e : p.1 = t
    · rw [if_pos e] at h
      cases h
      rw [if_pos e, if_pos e, Nat.sub_self, List.set_cons_zero, e]
    · rw [if_neg e] at h
      have h1 := (aIx_wt t r (o + 1) i h).1
      rw [if_neg e, if_neg e, aIx_addA t k r (o + 1) i h, show i - o = (i - (o + 1)) + 1 by omega, List.set_cons_succ]
theorem aIx_addN (t k : Nat) : ∀ (l : List (Nat × Nat)) (o : Nat), aIx t l o = none → addA t k l = l ++ [(t, k)]
  | [], o, _ => rfl
  | p :: r, o, h => by
    unfold aIx at h
    unfold addA
    by_cases e : p.1 = t
    · rw [if_pos e] at h; cases h
    · rw [if_neg e] at h
      rw [if_neg e, aIx_addN t k r (o + 1) h]; rfl
section CLASS2
variable {ad : Nat → Nat} {h : Mem} {w : Wk} {σ : Sta}
theorem K_X3_isOutcome {x : Int32} : Con ad mX3_isOutcome [.int x] h (qZ fun b h' => h' = h ∧ b = (inN x 8).isSome) := by
  refine Con.mk vX3_isOutcome.1 vX3_isOutcome.2.2.2 [some (.int x)] rfl (Nat.le_of_ble_eq_true rfl) (fun Y hM => ?_)
  refine r_il aX3_isOutcome_0 rfl ?_
  refine r_z_lt aX3_isOutcome_1 (fun c1 => ?_) (fun c1 => ?_)
  · -- to 14
    refine r_ki aX3_isOutcome_14 ?_
    exact r_zF hM aX3_isOutcome_15 rfl ⟨rfl, by rw [inN_lt0 c1]; rfl⟩
  · -- to 4
    refine r_il aX3_isOutcome_4 rfl ?_
    refine r_ki aX3_isOutcome_5 ?_
    refine r_c_gt aX3_isOutcome_7 (fun c7 => ?_) (fun c7 => ?_)
    · -- to 14
      refine r_ki aX3_isOutcome_14 ?_
      exact r_zF hM aX3_isOutcome_15 rfl ⟨rfl, by rw [inN_gt c7 (by decide)]; rfl⟩
    · -- to 10
      refine r_ki aX3_isOutcome_10 ?_
      refine r_go aX3_isOutcome_11 ?_
      exact r_zT hM aX3_isOutcome_15 rfl ⟨rfl, (inN_le c1 c7 (by decide)).symm⟩
theorem K_X3_isSet {x : Int32} : Con ad mX3_isSet [.int x] h (qZ fun b h' => h' = h ∧ b = (inN x 256).isSome) := by
  refine Con.mk vX3_isSet.1 vX3_isSet.2.2.2 [some (.int x)] rfl (Nat.le_of_ble_eq_true rfl) (fun Y hM => ?_)
  refine r_il aX3_isSet_0 rfl ?_
  refine r_z_lt aX3_isSet_1 (fun c1 => ?_) (fun c1 => ?_)
  · -- to 15
    refine r_ki aX3_isSet_15 ?_
    exact r_zF hM aX3_isSet_16 rfl ⟨rfl, by rw [inN_lt0 c1]; rfl⟩
  · -- to 4
    refine r_il aX3_isSet_4 rfl ?_
    refine r_ki aX3_isSet_5 ?_
    refine r_c_gt aX3_isSet_8 (fun c8 => ?_) (fun c8 => ?_)
    · -- to 15
      refine r_ki aX3_isSet_15 ?_
      exact r_zF hM aX3_isSet_16 rfl ⟨rfl, by rw [inN_gt c8 (by decide)]; rfl⟩
    · -- to 11
      refine r_ki aX3_isSet_11 ?_
      refine r_go aX3_isSet_12 ?_
      exact r_zT hM aX3_isSet_16 rfl ⟨rfl, (inN_le c1 c8 (by decide)).symm⟩
theorem K_X3_isSave {x : Int32} : Con ad mX3_isSave [.int x] h (qZ fun b h' => h' = h ∧ b = (inN x 3).isSome) := by
  refine Con.mk vX3_isSave.1 vX3_isSave.2.2.2 [some (.int x)] rfl (Nat.le_of_ble_eq_true rfl) (fun Y hM => ?_)
  refine r_il aX3_isSave_0 rfl ?_
  refine r_z_lt aX3_isSave_1 (fun c1 => ?_) (fun c1 => ?_)
  · -- to 13
    refine r_ki aX3_isSave_13 ?_
    exact r_zF hM aX3_isSave_14 rfl ⟨rfl, by rw [inN_lt0 c1]; rfl⟩
  · -- to 4
    refine r_il aX3_isSave_4 rfl ?_
    refine r_ki aX3_isSave_5 ?_
    refine r_c_ge aX3_isSave_6 (fun c6 => ?_) (fun c6 => ?_)
    · -- to 13
      refine r_ki aX3_isSave_13 ?_
      exact r_zF hM aX3_isSave_14 rfl ⟨rfl, by rw [inN_ge c6]; rfl⟩
    · -- to 9
      refine r_ki aX3_isSave_9 ?_
      refine r_go aX3_isSave_10 ?_
      exact r_zT hM aX3_isSave_14 rfl ⟨rfl, (inN_in c1 c6).symm⟩
theorem K_X3_isSide {x : Int32} : Con ad mX3_isSide [.int x] h (qZ fun b h' => h' = h ∧ b = (inN x 2).isSome) := by
  refine Con.mk vX3_isSide.1 vX3_isSide.2.2.2 [some (.int x)] rfl (Nat.le_of_ble_eq_true rfl) (fun Y hM => ?_)
  refine r_il aX3_isSide_0 rfl ?_
  refine r_z_eq aX3_isSide_1 (fun c1 => ?_) (fun c1 => ?_)
  · -- to 9
    refine r_ki aX3_isSide_9 ?_
    refine r_go aX3_isSide_10 ?_
    exact r_zT hM aX3_isSide_14 rfl ⟨rfl, by rw [c1]; decide +kernel⟩
  · -- to 4
    refine r_il aX3_isSide_4 rfl ?_
    refine r_ki aX3_isSide_5 ?_
    refine r_c_ne aX3_isSide_6 (fun c6 => ?_) (fun c6 => ?_)
    · -- to 13
      refine r_ki aX3_isSide_13 ?_
      exact r_zF hM aX3_isSide_14 rfl ⟨rfl, by rw [(inN_n (by decide)).mpr (fun ⟨j, hj, e⟩ => (by rcases (by omega : j = 0 ∨ j = 1) with z | z <;> subst z; exact c1 e; exact c6 e))]; rfl⟩
    · -- to 9
      refine r_ki aX3_isSide_9 ?_
      refine r_go aX3_isSide_10 ?_
      exact r_zT hM aX3_isSide_14 rfl ⟨rfl, by rw [c6]; decide +kernel⟩
theorem K_X2_forgetLaws : Con ad mX2_forgetLaws [.ref (ad 1)] h (qV fun h' => (∀ i, i < 20 → h'.1 3 i = -1) ∧ Fr (fun a => a = 3) h h') := by
  refine Con.mk vX2_forgetLaws.1 vX2_forgetLaws.2.2.2.2 [some (.ref (ad 1))] rfl (Nat.le_of_ble_eq_true rfl) (fun Y hM => ?_)
  refine r_al aX2_forgetLaws_0 rfl ?_
  refine r_getR aX2_forgetLaws_1 rfl rfl ?_
  refine r_ki aX2_forgetLaws_4 ?_
  refine r_SV2 aX2_forgetLaws_5 vJ7_fill_53178 (K_J7_fill_53178 rfl) (fun h5 Q5 => ?_)
  exact r_vret hM aX2_forgetLaws_8 rfl ⟨Q5.1, Q5.2.1⟩
def forg (a : Nat) : Prop := a = 3 ∨ a = 55 ∨ a = 70 ∨ a = 77 ∨ a = 84
theorem K_X3_forgetWhatRestsOnWalk (hW : WW w) (hR : WR h w) : Con ad mX3_forgetWhatRestsOnWalk [.ref (ad 0)] h (qV fun h' => WR h' (w.1, w.2.1, w.2.2.1, noW) ∧ LO h' 55 none ∧ (∀ k, k < 3 → LO h' (70 + 7 * k) none) ∧ Fr forg h h') := by
  have h20 := hW.n
  refine Con.mk vX3_forgetWhatRestsOnWalk.1 vX3_forgetWhatRestsOnWalk.2.2.2.2 [some (.ref (ad 0)), none] rfl (Nat.le_of_ble_eq_true rfl) (fun Y hM => ?_)
  have loop : ∀ (k i : Nat) (g : Mem), 3 - i = k → i ≤ 3 → LO g 55 none → (∀ j, j < i → LO g (70 + 7 * j) none) → Fr forg h g → G Y ad mX3_forgetWhatRestsOnWalk 9 [some (.ref (ad 0)), some (.int (nI i))] [] g := by
    intro k
    induction k with
    | zero =>
      intro i g hk hi h55 hK hF
      refine r_il aX3_forgetWhatRestsOnWalk_9 rfl ?_
      refine r_ki aX3_forgetWhatRestsOnWalk_10 ?_
      refine r_n_ge aX3_forgetWhatRestsOnWalk_11 (by omega) (by omega) (fun c11 => ?_) (fun c11 => ?_)
      · -- to 29
        refine r_al aX3_forgetWhatRestsOnWalk_29 rfl ?_
        refine r_getR aX3_forgetWhatRestsOnWalk_30 rfl rfl ?_
        refine r_VV0 aX3_forgetWhatRestsOnWalk_33 vX2_forgetLaws rfl (K_X2_forgetLaws) (fun h33 Q33 => ?_)
        refine r_vret hM aX3_forgetWhatRestsOnWalk_36 rfl ?_
        have F2 : Fr forg h h33 := hF.tr (Q33.2.mono (fun a z => Or.inl z))
        have e : ∀ a, a ≠ 3 → h33.1 a = g.1 a := fun a z => (Q33.2 a z).1
        refine ⟨?_, h55.fr Q33.2 (fun a z => by omega), fun j hj => (hK j (by omega)).fr Q33.2 (fun a z => by omega), F2⟩
        have f : ∀ a, ¬ forg a → h33.1 a = h.1 a := fun a z => (F2 a z).1
        obtain ⟨r1, r2, r3, r4, r5, r6, r7⟩ := hR
        refine ⟨by rw [f 1 (by unfold forg; omega)]; exact r1, fun s hs => by rw [f 2 (by unfold forg; omega)]; exact r2 s hs, fun s hs => Q33.1 s (by have : s < w.1 := hs; omega), fun s hs => by rw [f 4 (by unfold forg; omega)]; exact r4 s hs, fun s hs => by rw [f 5 (by unfold forg; omega)]; exact r5 s hs, fun s hs i p hp => by rw [f (7 + s) (by unfold forg; omega), f (28 + s) (by unfold forg; omega)]; exact r6 s hs i p hp, fun s hs i h1 h2 => by rw [f (28 + s) (by unfold forg; omega)]; exact r7 s hs i h1 h2⟩
      · omega
    | succ k ih =>
      intro i g hk hi h55 hK hF
      have h3 : i < 3 := by omega
      have hq := isLk i h3
      refine r_il aX3_forgetWhatRestsOnWalk_9 rfl ?_
      refine r_ki aX3_forgetWhatRestsOnWalk_10 ?_
      refine r_n_ge aX3_forgetWhatRestsOnWalk_11 (by omega) (by omega) (fun c11 => ?_) (fun c11 => ?_)
      · omega
      · -- to 14
        refine r_al aX3_forgetWhatRestsOnWalk_14 rfl ?_
        refine r_getR aX3_forgetWhatRestsOnWalk_15 rfl rfl ?_
        refine r_il aX3_forgetWhatRestsOnWalk_18 rfl ?_
        refine r_aaldL aX3_forgetWhatRestsOnWalk_19 rfl h3 (if_pos h3) ?_
        refine r_VV0 aX3_forgetWhatRestsOnWalk_20 vX0_forget hq.1 (K_X0_forget hq) (fun hh20 Q20 => ?_)
        refine r_in1 aX3_forgetWhatRestsOnWalk_23 rfl ?_
        refine r_go aX3_forgetWhatRestsOnWalk_26 ?_
        refine ih (i + 1) hh20 (by omega) (by omega) ?_ (fun j hj => ?_) ?_
        · exact h55.fr Q20.2.2.2 (fun a z => by omega)
        · by_cases e : j = i
          · subst e; exact ⟨Q20.1, Q20.2.1, Q20.2.2.1⟩
          · exact (hK j (by omega)).fr Q20.2.2.2 (fun a z => by omega)
        · exact hF.tr (Q20.2.2.2.mono (fun a z => by unfold forg; omega))
  refine r_al aX3_forgetWhatRestsOnWalk_0 rfl ?_
  refine r_getR aX3_forgetWhatRestsOnWalk_1 rfl rfl ?_
  refine r_VV0 aX3_forgetWhatRestsOnWalk_4 vX0_forget rfl (K_X0_forget isL55) (fun h4 Q4 => ?_)
  refine r_ki aX3_forgetWhatRestsOnWalk_7 ?_
  refine r_is1 aX3_forgetWhatRestsOnWalk_8 rfl ?_
  exact loop 3 0 h4 rfl (by omega) ⟨Q4.1, Q4.2.1, Q4.2.2.1⟩ (fun j hj => by omega) (Q4.2.2.2.mono (fun a z => Or.inr (Or.inl z)))
theorem K_X2_addState {n : Nat} {out : Nat → Option Nat} {ar : Nat → List (Nat × Nat)} {o : Option Nat} (hR : WR h (n, out, ar, noW)) (hn : n < 20) : Con ad mX2_addState [.ref (ad 1), .int (oI o)] h (qI fun x h' => x = nI n ∧ WR h' (n + 1, va_up out n o, ar, noW) ∧ Fr (fun a => 1 ≤ a ∧ a < 4) h h') := by
  obtain ⟨r1, r2, r3, r4, r5, r6, r7⟩ := hR
  have hn0 : h.1 1 0 = nI n := r1
  refine Con.mk vX2_addState.1 vX2_addState.2.2.2.2 [some (.ref (ad 1)), some (.int (oI o))] rfl (Nat.le_of_ble_eq_true rfl) (fun Y hM => ?_)
  refine r_al aX2_addState_0 rfl ?_
  refine r_getR aX2_addState_1 rfl rfl ?_
  refine r_al aX2_addState_4 rfl ?_
  refine r_gI aX2_addState_5 rfl rfl (Eq.trans (by simp [si_1, si_2, sl_1, sl_2, sri_1, sri_2, srl_1, srl_2]) hn0) ?_
  refine r_il aX2_addState_8 rfl ?_
  refine r_iast aX2_addState_9 rfl (by omega) ?_
  refine r_al aX2_addState_10 rfl ?_
  refine r_getR aX2_addState_11 rfl rfl ?_
  refine r_al aX2_addState_14 rfl ?_
  refine r_gI aX2_addState_15 rfl rfl (Eq.trans (by simp [si_1, si_2, sl_1, sl_2, sri_1, sri_2, srl_1, srl_2]) hn0) ?_
  refine r_ki aX2_addState_18 ?_
  refine r_iast aX2_addState_19 rfl (by omega) ?_
  refine r_al aX2_addState_20 rfl ?_
  refine r_dup aX2_addState_21 rfl ?_
  refine r_gI aX2_addState_22 rfl rfl (Eq.trans (by simp [si_1, si_2, sl_1, sl_2, sri_1, sri_2, srl_1, srl_2]) hn0) ?_
  refine r_ki aX2_addState_25 ?_
  refine r_iaddN aX2_addState_26 ?_
  refine r_putI aX2_addState_27 rfl rfl rfl ?_
  refine r_al aX2_addState_30 rfl ?_
  refine r_gI aX2_addState_31 rfl rfl (v := nI (n + 1)) (by simp [si_1]) ?_
  refine r_ki aX2_addState_34 ?_
  refine r_isubN aX2_addState_35 (by omega) ?_
  refine r_iret hM aX2_addState_36 rfl ?_
  have F : Fr (fun a => 1 ≤ a ∧ a < 4) h (si (si (si h 2 n (oI o)) 3 n (-1)) 1 0 (nI (n + 1))) := (Fr.si ⟨by omega, by omega⟩).tr ((Fr.si ⟨by omega, by omega⟩).tr (Fr.si ⟨by omega, by omega⟩))
  have f : ∀ a, 4 ≤ a → (si (si (si h 2 n (oI o)) 3 n (-1)) 1 0 (nI (n + 1))).1 a = h.1 a := fun a z => (F a (by omega)).1
  refine ⟨by rw [Nat.add_sub_cancel], ⟨by simp [si_1], fun s hs => ?_, fun s hs => ?_, fun s hs => by rw [f 4 (by omega)]; exact r4 s hs, fun s hs => by rw [f 5 (by omega)]; exact r5 s hs, fun s hs i p hp => by rw [f (7 + s) (by omega), f (28 + s) (by omega)]; exact r6 s hs i p hp, fun s hs i h1 h2 => by rw [f (28 + s) (by omega)]; exact r7 s hs i h1 h2⟩, F⟩
  · by_cases e : s = n
    · subst e; simp [si_1, va_up]
    · have hs : s < n + 1 := hs
      have := r2 s (by show s < n; omega)
      simp [si_1, va_up, e]
      exact this
  · by_cases e : s = n
    · subst e; simp [si_1]; rfl
    · have hs : s < n + 1 := hs
      have := r3 s (by show s < n; omega)
      simp [si_1, e]
      exact this
theorem WR.addOld {s t k i : Nat} {h' : Mem} (hR : WR h w) (hs : s < 20) (hx : aIx t (w.2.2.1 s) 0 = some i) (hf : ∀ a, a ≠ 4 → a ≠ 28 + s → h'.1 a = h.1 a) (h4 : h'.1 4 = upd (h.1 4) s (nI (tot (w.2.2.1 s) + k))) (hw : h'.1 (28 + s) = upd (h.1 (28 + s)) i (nI (wt t (w.2.2.1 s) + k))) : WR h' (w.1, w.2.1, va_up w.2.2.1 s (addA t k (w.2.2.1 s)), w.2.2.2) := by
  obtain ⟨r1, r2, r3, r4, r5, r6, r7⟩ := hR
  obtain ⟨-, i1, i2⟩ := aIx_wt t _ 0 i hx
  rw [Nat.sub_zero] at i2
  rw [Nat.zero_add] at i1
  have ea := aIx_addA t k _ 0 i hx
  rw [Nat.sub_zero] at ea
  refine ⟨by rw [hf 1 (by omega) (by omega)]; exact r1, fun s' z => by rw [hf 2 (by omega) (by omega)]; exact r2 s' z, fun s' z => by rw [hf 3 (by omega) (by omega)]; exact r3 s' z, fun s' z => ?_, fun s' z => ?_, fun s' z j p hp => ?_, fun s' z j h1 h2 => ?_⟩
  · dsimp only
    rw [h4]
    by_cases e : s' = s
    · subst e; rw [mu_self, addA_tot, pk_us]
    · rw [mu_ne e, pk_un e]; exact r4 s' z
  · dsimp only
    rw [hf 5 (by omega) (by omega)]
    by_cases e : s' = s
    · subst e; rw [mu_self, ea, List.length_set]; exact r5 s' z
    · rw [mu_ne e]; exact r5 s' z
  · dsimp only at hp
    rw [hf (7 + s') (by omega) (by omega)]
    by_cases e : s' = s
    · subst e
      rw [mu_self, ea] at hp
      rw [hw]
      by_cases ej : j = i
      · subst ej
        rw [List.getElem?_set_self i1] at hp
        cases hp
        rw [pk_us]
        exact ⟨(r6 s' z j _ i2).1, rfl⟩
      · rw [List.getElem?_set_ne (Ne.symm ej)] at hp
        rw [pk_un ej]
        exact r6 s' z j p hp
    · rw [mu_ne e] at hp
      rw [hf (28 + s') (by omega) (by omega)]
      exact r6 s' z j p hp
  · dsimp only at h1
    by_cases e : s' = s
    · subst e
      rw [mu_self, ea, List.length_set] at h1
      rw [hw, pk_un (by omega)]
      exact r7 s' z j h1 h2
    · rw [mu_ne e] at h1
      rw [hf (28 + s') (by omega) (by omega)]
      exact r7 s' z j h1 h2
theorem WR.addNew {s t k : Nat} {h' : Mem} (hR : WR h w) (hs : s < 20) (hx : aIx t (w.2.2.1 s) 0 = none) (hf : ∀ a, a ≠ 4 → a ≠ 5 → a ≠ 7 + s → a ≠ 28 + s → h'.1 a = h.1 a) (h4 : h'.1 4 = upd (h.1 4) s (nI (tot (w.2.2.1 s) + k))) (h5 : h'.1 5 = upd (h.1 5) s (nI ((w.2.2.1 s).length + 1))) (ht : h'.1 (7 + s) = upd (h.1 (7 + s)) (w.2.2.1 s).length (nI t)) (hw : h'.1 (28 + s) = upd (h.1 (28 + s)) (w.2.2.1 s).length (nI k)) : WR h' (w.1, w.2.1, va_up w.2.2.1 s (addA t k (w.2.2.1 s)), w.2.2.2) := by
  obtain ⟨r1, r2, r3, r4, r5, r6, r7⟩ := hR
  have ea := aIx_addN t k _ 0 hx
  refine ⟨by rw [hf 1 (by omega) (by omega) (by omega) (by omega)]; exact r1, fun s' z => by rw [hf 2 (by omega) (by omega) (by omega) (by omega)]; exact r2 s' z, fun s' z => by rw [hf 3 (by omega) (by omega) (by omega) (by omega)]; exact r3 s' z, fun s' z => ?_, fun s' z => ?_, fun s' z j p hp => ?_, fun s' z j h1 h2 => ?_⟩
  · dsimp only
    rw [h4]
    by_cases e : s' = s
    · subst e; rw [mu_self, addA_tot, pk_us]
    · rw [mu_ne e, pk_un e]; exact r4 s' z
  · dsimp only
    rw [h5]
    by_cases e : s' = s
    · subst e; rw [mu_self, ea, List.length_append, pk_us]; rfl
    · rw [mu_ne e, pk_un e]; exact r5 s' z
  · dsimp only at hp
    by_cases e : s' = s
    · subst e
      rw [mu_self, ea] at hp
      rw [hw, ht]
      by_cases ej : j < (w.2.2.1 s').length
      · rw [List.getElem?_append_left ej] at hp
        rw [pk_un (by omega), pk_un (by omega)]
        exact r6 s' z j p hp
      · rw [List.getElem?_append_right (by omega)] at hp
        have h0 : j - (w.2.2.1 s').length < 1 := (List.getElem?_eq_some_iff.mp hp).1
        have h9 : j = (w.2.2.1 s').length := by omega
        subst h9
        rw [Nat.sub_self] at hp
        cases hp
        rw [pk_us, pk_us]
        exact ⟨rfl, rfl⟩
    · rw [mu_ne e] at hp
      rw [hf (28 + s') (by omega) (by omega) (by omega) (by omega), hf (7 + s') (by omega) (by omega) (by omega) (by omega)]
      exact r6 s' z j p hp
  · dsimp only at h1
    by_cases e : s' = s
    · subst e
      rw [mu_self, ea, List.length_append, List.length_singleton] at h1
      rw [hw, pk_un (by omega)]
      exact r7 s' z j (by omega) h2
    · rw [mu_ne e] at h1
      rw [hf (28 + s') (by omega) (by omega) (by omega) (by omega)]
      exact r7 s' z j h1 h2
theorem K_X2_addSixteenths {s t k : Nat} (hW : WW w) (hR : WR h w) (hs : s < 20) (ht : t < 20) (hk : 0 < k) (h16 : tot (w.2.2.1 s) + k ≤ 16) : Con ad mX2_addSixteenths [.ref (ad 1), .int (nI s), .int (nI t), .int (nI k)] h (qI fun x h' => x = nI (tot (w.2.2.1 s) + k) ∧ WR h' (w.1, w.2.1, va_up w.2.2.1 s (addA t k (w.2.2.1 s)), w.2.2.2) ∧ Fr (fun a => 4 ≤ a ∧ a < 48) h h') := by
  have hlen := (hW.2.2.2.1 s).len
  have ha := hW.wt s t
  obtain ⟨r1, r2, r3, r4, r5, r6, r7⟩ := id hR
  have t0 := r4 s hs
  have l0 := r5 s hs
  refine Con.mk vX2_addSixteenths.1 vX2_addSixteenths.2.2.2.2 [some (.ref (ad 1)), some (.int (nI s)), some (.int (nI t)), some (.int (nI k)), none] rfl (Nat.le_of_ble_eq_true rfl) (fun Y hM => ?_)
  cases hx : aIx t (w.2.2.1 s) 0 with
  | some i =>
    obtain ⟨-, i1, i2⟩ := aIx_wt t _ 0 i hx
    have w0 := (r6 s hs i _ i2).2
    have hne : ¬ nI i = -1 := fun z => nI_pos (n := i) (by omega) (by rw [z]; decide)
    refine r_al aX2_addSixteenths_0 rfl ?_
    refine r_il aX2_addSixteenths_1 rfl ?_
    refine r_il aX2_addSixteenths_2 rfl ?_
    refine r_VI2 aX2_addSixteenths_3 vX2_arrowTo rfl (K_X2_arrowTo hW hR hs ht) (fun x3 h3 Q3 => ?_)
    rw [Q3.1, Q3.2, hx]
    refine r_ti (v := nI i) rfl ?_
    refine r_is4 aX2_addSixteenths_6 rfl ?_
    refine r_il aX2_addSixteenths_8 rfl ?_
    refine r_ki aX2_addSixteenths_10 ?_
    refine r_c_ne aX2_addSixteenths_11 (fun c11 => ?_) (fun c11 => ?_)
    · -- to 53
      refine r_il aX2_addSixteenths_53 rfl ?_
      refine r_ki aX2_addSixteenths_55 ?_
      refine r_c_eq aX2_addSixteenths_56 (fun c56 => ?_) (fun c56 => ?_)
      · exact absurd c56 hne
      · -- to 59
        refine r_al aX2_addSixteenths_59 rfl ?_
        refine r_getR aX2_addSixteenths_60 rfl rfl ?_
        refine r_il aX2_addSixteenths_63 rfl ?_
        refine r_aaldI aX2_addSixteenths_64 rfl hs (if_pos hs) ?_
        refine r_il aX2_addSixteenths_65 rfl ?_
        refine r_dup2 aX2_addSixteenths_67 rfl rfl ?_
        refine r_xI aX2_addSixteenths_68 (shW _ hs) (by omega) w0 ?_
        refine r_il aX2_addSixteenths_69 rfl ?_
        refine r_iaddN aX2_addSixteenths_70 ?_
        refine r_iast aX2_addSixteenths_71 (shW _ hs) (by omega) ?_
        refine r_al aX2_addSixteenths_72 rfl ?_
        refine r_getR aX2_addSixteenths_73 rfl rfl ?_
        refine r_il aX2_addSixteenths_76 rfl ?_
        refine r_dup2 aX2_addSixteenths_77 rfl rfl ?_
        refine r_xI aX2_addSixteenths_78 rfl (by omega) (v := nI (tot (w.2.2.1 s))) (Eq.trans (by simp [si_1]; omega) t0) ?_
        refine r_il aX2_addSixteenths_79 rfl ?_
        refine r_iaddN aX2_addSixteenths_80 ?_
        refine r_iast aX2_addSixteenths_81 rfl (by omega) ?_
        refine r_al aX2_addSixteenths_82 rfl ?_
        refine r_getR aX2_addSixteenths_83 rfl rfl ?_
        refine r_il aX2_addSixteenths_86 rfl ?_
        refine r_xI aX2_addSixteenths_87 rfl (by omega) (v := nI (tot (w.2.2.1 s) + k)) (by simp [si_1]) ?_
        exact r_iret hM aX2_addSixteenths_88 rfl ⟨rfl, hR.addOld hs hx (fun a z1 z2 => by rw [si_o z1, si_o z2]) (by rw [si_row, si_o (by omega)]) (by rw [si_o (by omega), si_row]), (Fr.si ⟨by omega, by omega⟩).tr (Fr.si ⟨by omega, by omega⟩)⟩
    · exact absurd c11 hne
  | none =>
    have w0 := r7 s hs (w.2.2.1 s).length (Nat.le_refl _) (by omega)
    refine r_al aX2_addSixteenths_0 rfl ?_
    refine r_il aX2_addSixteenths_1 rfl ?_
    refine r_il aX2_addSixteenths_2 rfl ?_
    refine r_VI2 aX2_addSixteenths_3 vX2_arrowTo rfl (K_X2_arrowTo hW hR hs ht) (fun x3 h3 Q3 => ?_)
    rw [Q3.1, Q3.2, hx]
    refine r_is4 aX2_addSixteenths_6 rfl ?_
    refine r_il aX2_addSixteenths_8 rfl ?_
    refine r_ki aX2_addSixteenths_10 ?_
    refine r_c_ne aX2_addSixteenths_11 (fun c11 => ?_) (fun c11 => ?_)
    · exact absurd rfl c11
    · -- to 14
      refine r_al aX2_addSixteenths_14 rfl ?_
      refine r_getR aX2_addSixteenths_15 rfl rfl ?_
      refine r_il aX2_addSixteenths_18 rfl ?_
      refine r_xI aX2_addSixteenths_19 rfl (by omega) l0 ?_
      refine r_ki aX2_addSixteenths_20 ?_
      refine r_n_ge aX2_addSixteenths_22 (by omega) (by omega) (fun c22 => ?_) (fun c22 => ?_)
      · omega
      · -- to 25
        refine r_al aX2_addSixteenths_25 rfl ?_
        refine r_getR aX2_addSixteenths_26 rfl rfl ?_
        refine r_il aX2_addSixteenths_29 rfl ?_
        refine r_xI aX2_addSixteenths_30 rfl (by omega) l0 ?_
        refine r_is4 aX2_addSixteenths_31 rfl ?_
        refine r_al aX2_addSixteenths_33 rfl ?_
        refine r_getR aX2_addSixteenths_34 rfl rfl ?_
        refine r_il aX2_addSixteenths_37 rfl ?_
        refine r_aaldI aX2_addSixteenths_38 rfl hs (if_pos hs) ?_
        refine r_il aX2_addSixteenths_39 rfl ?_
        refine r_il aX2_addSixteenths_41 rfl ?_
        refine r_iast aX2_addSixteenths_42 (shT _ hs) (by omega) ?_
        refine r_al aX2_addSixteenths_43 rfl ?_
        refine r_getR aX2_addSixteenths_44 rfl rfl ?_
        refine r_il aX2_addSixteenths_47 rfl ?_
        refine r_dup2 aX2_addSixteenths_48 rfl rfl ?_
        refine r_xI aX2_addSixteenths_49 rfl (by omega) (v := nI (w.2.2.1 s).length) (Eq.trans (by rw [si_o (by omega)]) l0) ?_
        refine r_ki aX2_addSixteenths_50 ?_
        refine r_iaddN aX2_addSixteenths_51 ?_
        refine r_iast aX2_addSixteenths_52 rfl (by omega) ?_
        refine r_il aX2_addSixteenths_53 rfl ?_
        refine r_ki aX2_addSixteenths_55 ?_
        refine r_c_eq aX2_addSixteenths_56 (fun c56 => absurd c56 (fun z => nI_pos (n := (w.2.2.1 s).length) (by omega) (by rw [z]; decide))) (fun c56 => ?_)
        refine r_al aX2_addSixteenths_59 rfl ?_
        refine r_getR aX2_addSixteenths_60 rfl rfl ?_
        refine r_il aX2_addSixteenths_63 rfl ?_
        refine r_aaldI aX2_addSixteenths_64 rfl hs (if_pos hs) ?_
        refine r_il aX2_addSixteenths_65 rfl ?_
        refine r_dup2 aX2_addSixteenths_67 rfl rfl ?_
        refine r_xI aX2_addSixteenths_68 (shW _ hs) (by omega) (v := nI 0) (Eq.trans (by rw [si_o (by omega), si_o (by omega)]) w0) ?_
        refine r_il aX2_addSixteenths_69 rfl ?_
        refine r_iaddN aX2_addSixteenths_70 ?_
        refine r_iast aX2_addSixteenths_71 (shW _ hs) (by omega) ?_
        refine r_al aX2_addSixteenths_72 rfl ?_
        refine r_getR aX2_addSixteenths_73 rfl rfl ?_
        refine r_il aX2_addSixteenths_76 rfl ?_
        refine r_dup2 aX2_addSixteenths_77 rfl rfl ?_
        refine r_xI aX2_addSixteenths_78 rfl (by omega) (v := nI (tot (w.2.2.1 s))) (Eq.trans (by rw [si_o (by omega), si_o (by omega), si_o (by omega)]) t0) ?_
        refine r_il aX2_addSixteenths_79 rfl ?_
        refine r_iaddN aX2_addSixteenths_80 ?_
        refine r_iast aX2_addSixteenths_81 rfl (by omega) ?_
        refine r_al aX2_addSixteenths_82 rfl ?_
        refine r_getR aX2_addSixteenths_83 rfl rfl ?_
        refine r_il aX2_addSixteenths_86 rfl ?_
        refine r_xI aX2_addSixteenths_87 rfl (by omega) (v := nI (tot (w.2.2.1 s) + k)) (by rw [si_row, pk_us]) ?_
        refine r_iret hM aX2_addSixteenths_88 rfl ⟨rfl, hR.addNew hs hx (fun a z1 z2 z3 z4 => by rw [si_o z1, si_o z4, si_o z2, si_o z3]) (by rw [si_row, si_o (by omega), si_o (by omega), si_o (by omega)]) (by rw [si_o (by omega), si_o (by omega), si_row, si_o (by omega)]) (by rw [si_o (by omega), si_o (by omega), si_o (by omega), si_row]) (by rw [si_o (by omega), si_row, si_o (by omega), si_o (by omega), Nat.zero_add]), (Fr.si ⟨by omega, by omega⟩).tr ((Fr.si ⟨by omega, by omega⟩).tr ((Fr.si ⟨by omega, by omega⟩).tr (Fr.si ⟨by omega, by omega⟩)))⟩
end CLASS2

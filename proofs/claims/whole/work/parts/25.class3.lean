theorem inN_nle {x : Int32} {n : Nat} (h : ¬ x ≤ nI n) (hn : n < 2147483647) : inN x (n + 1) = none := by
  apply inN_ge
  rw [Int32.le_iff_toInt_le, nI_toInt (by omega)] at h
  rw [Int32.le_iff_toInt_le, nI_toInt (by omega)]
  omega
theorem inN_le2 {x : Int32} {n : Nat} (h0 : ¬ x < 0) (h : x ≤ nI n) (hn : n < 2147483647) : ∃ k, k < n + 1 ∧ x = nI k ∧ inN x (n + 1) = some k := by
  have h1 : (inN x (n + 1)).isSome = true := inN_le h0 (fun z => by
    rw [Int32.lt_iff_toInt_lt] at z
    rw [Int32.le_iff_toInt_le] at h
    omega) hn
  obtain ⟨k, hk⟩ := Option.isSome_iff_exists.mp h1
  obtain ⟨a, b⟩ := (inN_s (by omega)).mp hk
  exact ⟨k, a, b, hk⟩
theorem inN_ex {x : Int32} {n : Nat} (hn : n < 2147483648) (h : (inN x n).isSome = true) : ∃ k, k < n ∧ x = nI k ∧ inN x n = some k := by
  obtain ⟨k, hk⟩ := Option.isSome_iff_exists.mp h
  obtain ⟨a, b⟩ := (inN_s hn).mp hk
  exact ⟨k, a, b, hk⟩
theorem inN_no {x : Int32} {n : Nat} (h : (inN x n).isSome = false) : inN x n = none := by
  cases hx : inN x n with
  | none => rfl
  | some k => rw [hx] at h; cases h
theorem CRep.fr0 {h h' : Mem} {σ : Sta} (C : CRep h σ) (hf : Fr (fun a => a = 0) h h') : WR h' σ.1 ∧ LO h' 55 σ.2.2.2.1 ∧ (∀ k, k < 3 → LO h' (70 + 7 * k) (σ.2.2.2.2 k)) ∧ (act σ → SV h' σ.1) := ⟨C.1.fr hf (fun a z => Or.inr z), C.2.2.2.1.fr hf (fun a z => Or.inl (by omega)), fun k hk => (C.2.2.2.2.1 k hk).fr hf (fun a z => Or.inl (by omega)), fun z => (C.2.2.2.2.2 z).fr hf (fun a z => Or.inl (by omega))⟩
/-- another listing, the rest stays -/
theorem CRep.now {h h' : Mem} {σ : Sta} {l : Option LL} {P : Nat → Prop} (C : CRep h σ) (hf : Fr P h h') (hp : ∀ a, P a → inLS 55 a ∨ (62 ≤ a ∧ a < 69)) (hL : LO h' 55 l) (hV : l ≠ none → SV h σ.1) : CRep h' (setNow σ l) := by
  have q : ∀ a, P a → (55 ≤ a ∧ a < 62) ∨ (51 ≤ a ∧ a < 55) ∨ (62 ≤ a ∧ a < 69) := fun a z => by
    rcases hp a z with (y | y) | y
    · exact Or.inl y
    · exact Or.inr (Or.inl y)
    · exact Or.inr (Or.inr y)
  have e0 : h'.1 0 = h.1 0 := (hf 0 (fun z => by have := q 0 z; omega)).1
  have hvf : SV h σ.1 → SV h' σ.1 := fun z => z.fr hf (fun a z => by have := q a z; omega)
  refine ⟨C.1.fr hf (fun a z => by have := q a z; omega), by rw [e0]; exact C.2.1, by rw [e0]; exact C.2.2.1, hL, fun k hk => (C.2.2.2.2.1 k hk).fr hf (fun a z => by have := q a z; omega), fun z => ?_⟩
  rcases z with z | z
  · exact hvf (hV z)
  · exact hvf (C.2.2.2.2.2 (Or.inr z))
theorem pth_law {w w' : Wk} (e : w'.2.2.1 = w.2.2.1) : ∀ (k s t : Nat), pth w' k s t ↔ pth w k s t
  | 0, s, t => Iff.rfl
  | k + 1, s, t => by
    unfold pth edg
    rw [e]
    exact ⟨fun ⟨u, h1, h2⟩ => ⟨u, h1, (pth_law e k u t).mp h2⟩, fun ⟨u, h1, h2⟩ => ⟨u, h1, (pth_law e k u t).mpr h2⟩⟩
theorem rB_law {w w' : Wk} (e : w'.2.2.1 = w.2.2.1) (s t : Nat) : rB w' s t = rB w s t := by
  rw [Bool.eq_iff_iff, rB_iff, rB_iff]
  exact ⟨fun ⟨k, hk⟩ => ⟨k, (pth_law e k s t).mp hk⟩, fun ⟨k, hk⟩ => ⟨k, (pth_law e k s t).mpr hk⟩⟩
theorem rmU_law {w w' : Wk} (e : w'.2.2.1 = w.2.2.1) (e1 : w'.2.1 = w.2.1) (s : Nat) : ∀ t, rmU w' s t = rmU w s t
  | 0 => rfl
  | t + 1 => by unfold rmU; rw [rmU_law e e1 s t, rB_law e, e1]
theorem rm_law {w w' : Wk} (e : w'.2.2.1 = w.2.2.1) (e1 : w'.2.1 = w.2.1) (e0 : w'.1 = w.1) (s : Nat) : rm w' s = rm w s := by unfold rm; rw [e0, rmU_law e e1]
theorem suU_law {w w' : Wk} (e : w'.2.2.1 = w.2.2.1) (e1 : w'.2.1 = w.2.1) (e0 : w'.1 = w.1) (s : Nat) : ∀ t, suU w' s t = suU w s t
  | 0 => rfl
  | t + 1 => by unfold suU; rw [suU_law e e1 e0 s t, rB_law e, rm_law e e1 e0]
theorem su_law {w w' : Wk} (e : w'.2.2.1 = w.2.2.1) (e1 : w'.2.1 = w.2.1) (e0 : w'.1 = w.1) (s : Nat) : su w' s = su w s := by unfold su; rw [e0, suU_law e e1 e0]
theorem SV.law {h : Mem} {w w' : Wk} (H : SV h w) (e : w'.2.2.1 = w.2.2.1) (e1 : w'.2.1 = w.2.1) (e0 : w'.1 = w.1) : SV h w' := by
  obtain ⟨a, b, c⟩ := H
  exact ⟨fun s hs t ht => by rw [rB_law e]; exact a s (e0 ▸ hs) t (e0 ▸ ht), fun s hs => by rw [rm_law e e1 e0]; exact b s (e0 ▸ hs), fun s hs => by rw [su_law e e1 e0]; exact c s (e0 ▸ hs)⟩
section CLASS3
variable {ad : Nat → Nat} {h : Mem} {σ : Sta}
theorem K_ex {q : Nat} {o : Option LL} (hq : IsL q) (H : LO h q o) (hb : ∀ l, o = some l → l.1 < 2147483648) : Con ad mX0_exists [.ref (ad q)] h (qZ fun b h' => h' = h ∧ b = o.isSome) := by
  refine Con.mk vX0_exists.1 vX0_exists.2.2.2.2 [some (.ref (ad q))] rfl (Nat.le_of_ble_eq_true rfl) (fun Y hM => ?_)
  refine r_al aX0_exists_0 rfl ?_
  refine r_getI aX0_exists_1 hq.1 rfl ?_
  refine r_ki aX0_exists_4 ?_
  refine r_c_eq aX0_exists_5 (fun c5 => ?_) (fun c5 => ?_)
  · -- to 12
    refine r_ki aX0_exists_12 ?_
    refine r_zF hM aX0_exists_13 rfl ⟨rfl, ?_⟩
    cases o with
    | none => rfl
    | some l => exact absurd (H.1.symm.trans c5) (fun z => nI_pos (n := l.1) (hb l rfl) (by rw [z]; decide))
  · -- to 8
    refine r_ki aX0_exists_8 ?_
    refine r_go aX0_exists_9 ?_
    refine r_zT hM aX0_exists_13 rfl ⟨rfl, ?_⟩
    cases o with
    | none => exact absurd H.1 c5
    | some l => rfl
theorem K_X3_order {x : Int32} (S : SI σ) (C : CRep h σ) : Con ad mX3_order [.ref (ad 0), .int x] h (qI fun r h' => r = (fOrder σ x).1 ∧ CRep h' (fOrder σ x).2 ∧ Fr (fun a => a < 91) h h') := by
  have e5 := C.2.1
  refine Con.mk vX3_order.1 vX3_order.2.2.2.2 [some (.ref (ad 0)), some (.int x), none] rfl (Nat.le_of_ble_eq_true rfl) (fun Y hM => ?_)
  refine r_il aX3_order_0 rfl ?_
  refine r_z_lt aX3_order_1 (fun c1 => ?_) (fun c1 => ?_)
  · -- to 9
    refine r_ki aX3_order_9 ?_
    exact r_iret hM aX3_order_10 rfl (by unfold fOrder; rw [inN_lt0 c1]; exact ⟨rfl, C, Fr.rf⟩)
  · -- to 4
    refine r_il aX3_order_4 rfl ?_
    refine r_ki aX3_order_5 ?_
    refine r_c_le aX3_order_6 (fun c6 => ?_) (fun c6 => ?_)
    · -- to 11
      obtain ⟨k, hk, rfl, hx⟩ := inN_le2 c1 c6 (by decide)
      refine r_al aX3_order_11 rfl ?_
      refine r_gI aX3_order_12 rfl rfl e5 ?_
      refine r_is2 aX3_order_15 rfl ?_
      refine r_al aX3_order_16 rfl ?_
      refine r_il aX3_order_17 rfl ?_
      refine r_putI aX3_order_18 rfl rfl rfl ?_
      refine r_il aX3_order_21 rfl ?_
      refine r_iret hM aX3_order_22 rfl ?_
      unfold fOrder
      rw [hx]
      obtain ⟨a, b, c, d⟩ := C.fr0 (h' := si h 0 5 (nI k)) (Fr.si rfl)
      exact ⟨rfl, ⟨a, by simp [si_1], by rw [si_1]; simp; exact C.2.2.1, b, c, d⟩, Fr.si (P := fun a => a < 91) (by omega)⟩
    · -- to 9
      refine r_ki aX3_order_9 ?_
      exact r_iret hM aX3_order_10 rfl (by unfold fOrder; rw [inN_nle c6 (by decide)]; exact ⟨rfl, C, Fr.rf⟩)
theorem K_X3_joined {b : Bool} (C : CRep h σ) : Con ad mX3_joined [.ref (ad 0), .int (bI b)] h (qI fun r h' => r = (fJoined σ b).1 ∧ CRep h' (fJoined σ b).2 ∧ Fr (fun a => a < 91) h h') := by
  have e6 := C.2.2.1
  have key : CRep (si h 0 6 (bI b)) (fJoined σ b).2 := by
    obtain ⟨a, b', c, d⟩ := C.fr0 (h' := si h 0 6 (bI b)) (Fr.si rfl)
    exact ⟨a, by rw [si_1]; simp; exact C.2.1, by simp [si_1, fJoined], b', c, d⟩
  refine Con.mk vX3_joined.1 vX3_joined.2.2.2.2 [some (.ref (ad 0)), some (.int (bI b)), none] rfl (Nat.le_of_ble_eq_true rfl) (fun Y hM => ?_)
  refine r_al aX3_joined_0 rfl ?_
  refine r_gI aX3_joined_1 rfl rfl e6 ?_
  refine r_b_eq aX3_joined_4 (fun c4 => ?_) (fun c4 => ?_)
  · -- to 11
    refine r_ki aX3_joined_11 ?_
    refine r_is2 aX3_joined_12 rfl ?_
    refine r_al aX3_joined_13 rfl ?_
    refine r_il aX3_joined_14 rfl ?_
    refine r_putZ aX3_joined_15 rfl rfl rfl ?_
    refine r_il aX3_joined_18 rfl ?_
    exact r_iret hM aX3_joined_19 rfl ⟨by unfold fJoined; rw [c4]; rfl, key, Fr.si (P := fun a => a < 91) (by omega)⟩
  · -- to 7
    refine r_ki aX3_joined_7 ?_
    refine r_go aX3_joined_8 ?_
    refine r_is2 aX3_joined_12 rfl ?_
    refine r_al aX3_joined_13 rfl ?_
    refine r_il aX3_joined_14 rfl ?_
    refine r_putZ aX3_joined_15 rfl rfl rfl ?_
    refine r_il aX3_joined_18 rfl ?_
    exact r_iret hM aX3_joined_19 rfl ⟨by unfold fJoined; rw [c4]; rfl, key, Fr.si (P := fun a => a < 91) (by omega)⟩
theorem nwS_crep {h' : Mem} {n : Nat} {out : Nat → Option Nat} {ar : Nat → List (Nat × Nat)} (C : CRep h σ) (h1 : WR h' (n, out, ar, noW)) (h2 : LO h' 55 none) (h3 : ∀ k, k < 3 → LO h' (70 + 7 * k) none) (h0 : h'.1 0 = h.1 0) : CRep h' (nwS σ n out ar) := by
  refine ⟨h1, by rw [h0]; exact C.2.1, by rw [h0]; exact C.2.2.1, h2, h3, fun z => ?_⟩
  rcases z with z | ⟨k, _, z⟩
  · exact absurd rfl z
  · exact absurd rfl z
theorem K_X3_state {x : Int32} (S : SI σ) (C : CRep h σ) : Con ad mX3_state [.ref (ad 0), .int x] h (qI fun r h' => r = (fState σ x).1 ∧ CRep h' (fState σ x).2 ∧ Fr (fun a => a < 91) h h') := by
  have hW := S.ww
  have h20 := hW.n
  have hR := C.1
  have hn := hR.1
  refine Con.mk vX3_state.1 vX3_state.2.2.2.2 [some (.ref (ad 0)), some (.int x)] rfl (Nat.le_of_ble_eq_true rfl) (fun Y hM => ?_)
  have go : ¬ (x ≠ -1 ∧ inN x 8 = none) → x = oI (inN x 8) → G Y ad mX3_state 14 [some (.ref (ad 0)), some (.int x)] [] h := by
    intro h1 h2
    refine r_al aX3_state_14 rfl ?_
    refine r_getR aX3_state_15 rfl rfl ?_
    refine r_gI aX3_state_18 rfl rfl hn ?_
    refine r_ki aX3_state_21 ?_
    refine r_n_lt aX3_state_23 (by omega) (by decide) (fun c23 => ?_) (fun c23 => ?_)
    · -- to 29
      refine r_al aX3_state_29 rfl ?_
      refine r_VV0 aX3_state_30 vX3_forgetWhatRestsOnWalk rfl (K_X3_forgetWhatRestsOnWalk hW hR) (fun h30 Q30 => ?_)
      obtain ⟨R1, L1, K1, F1⟩ := Q30
      have K := @K_X2_addState ad h30 σ.1.1 σ.1.2.1 σ.1.2.2.1 (inN x 8) R1 c23
      rw [← h2] at K
      refine r_al aX3_state_33 rfl ?_
      refine r_getR aX3_state_34 rfl rfl ?_
      refine r_il aX3_state_37 rfl ?_
      refine r_VI1 aX3_state_38 vX2_addState rfl K (fun x38 h38 Q38 => ?_)
      refine r_iret hM aX3_state_41 rfl ?_
      unfold fState
      rw [if_neg h1, if_neg (by omega)]
      obtain ⟨q1, q2, q3⟩ := Q38
      refine ⟨q1, nwS_crep C q2 (L1.fr q3 (fun a z => by omega)) (fun k hk => (K1 k hk).fr q3 (fun a z => by omega)) ?_, ?_⟩
      · rw [(q3 0 (by omega)).1, (F1 0 (by unfold forg; omega)).1]
      · exact (F1.mono (fun a z => by unfold forg at z; omega)).tr (q3.mono (fun a z => by omega))
    · -- to 26
      refine r_ki aX3_state_26 ?_
      exact r_iret hM aX3_state_28 rfl (by unfold fState; rw [if_neg h1, if_pos c23]; exact ⟨rfl, C, Fr.rf⟩)
  refine r_il aX3_state_0 rfl ?_
  refine r_ki aX3_state_1 ?_
  refine r_c_eq aX3_state_2 (fun c2 => ?_) (fun c2 => ?_)
  · -- to 14
    exact go (fun z => z.1 c2) (by rw [c2, inN_lt0 (by decide)]; rfl)
  · -- to 5
    refine r_il aX3_state_5 rfl ?_
    refine r_SZ1 aX3_state_6 vX3_isOutcome (K_X3_isOutcome) (fun x6 h6 Q6 => ?_)
    rw [Q6.1]
    refine r_b_ne aX3_state_9 (fun c9 => ?_) (fun c9 => ?_)
    · -- to 14
      obtain ⟨j, hj, e, hx⟩ := inN_ex (by decide) (Q6.2.symm.trans c9)
      exact go (fun z => by rw [hx] at z; cases z.2) (by rw [hx]; exact e)
    · -- to 12
      refine r_ki aX3_state_12 ?_
      exact r_iret hM aX3_state_13 rfl (by unfold fState; rw [if_pos ⟨c2, inN_no (Q6.2.symm.trans c9)⟩]; exact ⟨rfl, C, Fr.rf⟩)
theorem fArrow_b {x y z : Int32} (H : (∀ s, inN x σ.1.1 = some s → σ.1.2.1 s ≠ none) ∨ inN y σ.1.1 = none ∨ inN z 17 = none ∨ inN z 17 = some 0) : fArrow σ x y z = (-1, σ) := by
  unfold fArrow
  split
  · next s t k hs ht hk =>
    rw [if_pos]
    rcases H with H | H | H | H
    · exact Or.inl (H s hs)
    · rw [ht] at H; cases H
    · rw [hk] at H; cases H
    · rw [hk] at H; cases H; exact Or.inr rfl
  · rfl
theorem K_X3_arrow {x y z : Int32} (S : SI σ) (C : CRep h σ) : Con ad mX3_arrow [.ref (ad 0), .int x, .int y, .int z] h (qI fun r h' => r = (fArrow σ x y z).1 ∧ CRep h' (fArrow σ x y z).2 ∧ Fr (fun a => a < 91) h h') := by
  have hW := S.ww
  have h20 := hW.n
  have hR := C.1
  have bad : fArrow σ x y z = (-1, σ) → (-1 : Int32) = (fArrow σ x y z).1 ∧ CRep h (fArrow σ x y z).2 ∧ Fr (fun a => a < 91) h h := fun E => by rw [E]; exact ⟨rfl, C, Fr.rf⟩
  refine Con.mk vX3_arrow.1 vX3_arrow.2.2.2.2 [some (.ref (ad 0)), some (.int x), some (.int y), some (.int z)] rfl (Nat.le_of_ble_eq_true rfl) (fun Y hM => ?_)
  refine r_al aX3_arrow_0 rfl ?_
  refine r_getR aX3_arrow_1 rfl rfl ?_
  refine r_il aX3_arrow_4 rfl ?_
  refine r_VZ1 aX3_arrow_5 vX2_goesOn rfl (K_X2_goesOn hW hR) (fun x5 h5 Q5 => ?_)
  rw [Q5.1]
  refine r_b_eq aX3_arrow_8 (fun c8 => ?_) (fun c8 => ?_)
  · -- to 33
    refine r_ki aX3_arrow_33 ?_
    exact r_iret hM aX3_arrow_34 rfl (bad (fArrow_b (Or.inl (fun s hs e => (by have := (inN_s (by omega)).mp hs; rw [Q5.2.mpr ⟨s, this.1, this.2, e⟩] at c8; cases c8)))))
  · -- to 11
    refine r_al aX3_arrow_11 rfl ?_
    refine r_getR aX3_arrow_12 rfl rfl ?_
    refine r_il aX3_arrow_15 rfl ?_
    refine r_VZ1 aX3_arrow_16 vX2_has rfl (K_X2_has hW hR) (fun x16 h16 Q16 => ?_)
    rw [Q16.1]
    refine r_b_eq aX3_arrow_19 (fun c19 => ?_) (fun c19 => ?_)
    · -- to 33
      refine r_ki aX3_arrow_33 ?_
      exact r_iret hM aX3_arrow_34 rfl (bad (fArrow_b (Or.inr (Or.inl ((inN_n (by omega)).mpr (fun q => by rw [Q16.2.mpr q] at c19; cases c19))))))
    · -- to 22
      refine r_il aX3_arrow_22 rfl ?_
      refine r_ki aX3_arrow_23 ?_
      refine r_c_lt aX3_arrow_24 (fun c24 => ?_) (fun c24 => ?_)
      · -- to 33
        refine r_ki aX3_arrow_33 ?_
        refine r_iret hM aX3_arrow_34 rfl (bad (fArrow_b (Or.inr (Or.inr ?_))))
        by_cases q : z < 0
        · exact Or.inl (inN_lt0 q)
        · right
          apply (inN_s (by decide)).mpr
          obtain ⟨j, hj, e⟩ := nI_split (n := 1) q (fun y => by rw [Int32.lt_iff_toInt_lt] at c24; rw [Int32.le_iff_toInt_le] at y; omega) (by decide)
          exact ⟨by decide, by rw [e, show j = 0 by omega]⟩
      · -- to 27
        refine r_il aX3_arrow_27 rfl ?_
        refine r_ki aX3_arrow_28 ?_
        refine r_c_le aX3_arrow_30 (fun c30 => ?_) (fun c30 => ?_)
        · -- to 35
          obtain ⟨s, hs, rfl, hout⟩ := Q5.2.mp c8
          obtain ⟨t, ht, rfl⟩ := Q16.2.mp c19
          clear Q5 Q16
          have z0 : ¬ z < 0 := fun q => c24 (by rw [Int32.lt_iff_toInt_lt] at q ⊢; rw [nI_toInt (by decide)]; rw [Int32.toInt_zero] at q; omega)
          obtain ⟨k, hk, rfl, hzk⟩ := inN_le2 z0 c30 (by decide)
          have hk1 : 1 ≤ k := by
            rcases Nat.eq_zero_or_pos k with q | q
            · subst q; exact absurd (by decide) c24
            · exact q
          have ts := hR.2.2.2.1 s (by omega)
          have htt := hW.tot s
          have E0 : fArrow σ (nI s) (nI t) (nI k) = if 16 < tot (σ.1.2.2.1 s) + k then (-3, σ) else (nI (tot (σ.1.2.2.1 s) + k), nwS σ σ.1.1 σ.1.2.1 (va_up σ.1.2.2.1 s (addA t k (σ.1.2.2.1 s)))) := by
            unfold fArrow
            rw [inN_nI hs (by omega), inN_nI ht (by omega), hzk]
            dsimp only
            rw [if_neg (fun q => q.elim (fun q => q hout) (fun q => by omega))]
          rw [E0] at hM
          clear E0 bad hzk z0 c24 c30 c8 c19
          refine r_al aX3_arrow_35 rfl ?_
          refine r_getR aX3_arrow_36 rfl rfl ?_
          refine r_getR aX3_arrow_39 rfl rfl ?_
          refine r_il aX3_arrow_42 rfl ?_
          refine r_xI aX3_arrow_43 rfl (by omega) ts ?_
          refine r_il aX3_arrow_44 rfl ?_
          refine r_iaddN aX3_arrow_45 ?_
          refine r_ki aX3_arrow_46 ?_
          refine r_n_le aX3_arrow_48 (by omega) (by decide) (fun c48 => ?_) (fun c48 => ?_)
          · refine r_al aX3_arrow_54 rfl ?_
            refine r_VV0 aX3_arrow_55 vX3_forgetWhatRestsOnWalk rfl (K_X3_forgetWhatRestsOnWalk hW hR) (fun h55 Q55 => ?_)
            obtain ⟨R1, L1, K1, F1⟩ := Q55
            have hW1 : WW (σ.1.1, σ.1.2.1, σ.1.2.2.1, noW) := ⟨hW.1, hW.2.1, hW.2.2.1, hW.2.2.2.1, fun s t _ q => (by cases q), hW.2.2.2.2.2⟩
            refine r_al aX3_arrow_58 rfl ?_
            refine r_getR aX3_arrow_59 rfl rfl ?_
            refine r_il aX3_arrow_62 rfl ?_
            refine r_il aX3_arrow_63 rfl ?_
            refine r_il aX3_arrow_64 rfl ?_
            refine r_VI3 aX3_arrow_65 vX2_addSixteenths rfl (K_X2_addSixteenths hW1 R1 (by omega) (by omega) (by omega) c48) (fun x65 h65 Q65 => ?_)
            obtain ⟨q1, q2, q3⟩ := Q65
            refine r_iret hM aX3_arrow_68 rfl ?_
            rw [if_neg (by omega)]
            refine ⟨q1, nwS_crep C q2 (L1.fr q3 (fun a z => by omega)) (fun k hk => (K1 k hk).fr q3 (fun a z => by omega)) ?_, ?_⟩
            · rw [(q3 0 (by omega)).1, (F1 0 (by unfold forg; omega)).1]
            · exact (F1.mono (fun a z => by unfold forg at z; omega)).tr (q3.mono (fun a z => by omega))
          · refine r_ki aX3_arrow_51 ?_
            refine r_iret hM aX3_arrow_53 rfl ?_
            rw [if_pos (by omega)]
            exact ⟨rfl, C, Fr.rf⟩
        · -- to 33
          refine r_ki aX3_arrow_33 ?_
          exact r_iret hM aX3_arrow_34 rfl (bad (fArrow_b (Or.inr (Or.inr (Or.inl (inN_nle c30 (by decide)))))))
theorem setLaw_crep {s : Nat} {t : Option Nat} (C : CRep h σ) (hs : s < 20) : CRep (si h 3 s (oI t)) (setLaw σ s t) := by
  have hf : Fr (fun a => a = 3) h (si h 3 s (oI t)) := Fr.si rfl
  obtain ⟨⟨r1, r2, r3, r4, r5, r6, r7⟩, c2, c3, c4, c5, c6⟩ := C
  have f : ∀ a, a ≠ 3 → (si h 3 s (oI t)).1 a = h.1 a := fun a z => si_o z
  refine ⟨⟨by rw [f 1 (by omega)]; exact r1, fun s' z => by rw [f 2 (by omega)]; exact r2 s' z, fun s' z => ?_, fun s' z => by rw [f 4 (by omega)]; exact r4 s' z, fun s' z => by rw [f 5 (by omega)]; exact r5 s' z, fun s' z i p hp => by rw [f (7 + s') (by omega), f (28 + s') (by omega)]; exact r6 s' z i p hp, fun s' z i h1 h2 => by rw [f (28 + s') (by omega)]; exact r7 s' z i h1 h2⟩, by rw [f 0 (by omega)]; exact c2, by rw [f 0 (by omega)]; exact c3, c4.fr hf (fun a z => by omega), fun k hk => (c5 k hk).fr hf (fun a z => by omega), fun z => ((c6 z).fr hf (fun a z => by omega)).law rfl rfl rfl⟩
  show (si h 3 s (oI t)).1 3 s' = oI (va_up σ.1.2.2.2 s t s')
  by_cases e : s' = s
  · subst e; rw [si_row, pk_us, mu_self]
  · rw [si_row, pk_un e, mu_ne e]; exact r3 s' z
theorem K_X3_law {x y : Int32} (S : SI σ) (C : CRep h σ) : Con ad mX3_law [.ref (ad 0), .int x, .int y] h (qI fun r h' => r = (fLaw σ x y).1 ∧ CRep h' (fLaw σ x y).2 ∧ Fr (fun a => a < 91) h h') := by
  have hW := S.ww
  have h20 := hW.n
  have hR := C.1
  refine Con.mk vX3_law.1 vX3_law.2.2.2.2 [some (.ref (ad 0)), some (.int x), some (.int y)] rfl (Nat.le_of_ble_eq_true rfl) (fun Y hM => ?_)
  refine r_al aX3_law_0 rfl ?_
  refine r_getR aX3_law_1 rfl rfl ?_
  refine r_il aX3_law_4 rfl ?_
  refine r_VZ1 aX3_law_5 vX2_goesOn rfl (K_X2_goesOn hW hR) (fun x5 h5 Q5 => ?_)
  rw [Q5.1]
  refine r_b_eq aX3_law_8 (fun c8 => ?_) (fun c8 => ?_)
  · -- to 27
    refine r_ki aX3_law_27 ?_
    refine r_iret hM aX3_law_28 rfl ?_
    have E : fLaw σ x y = (-1, σ) := by
      unfold fLaw
      cases hx : inN x σ.1.1 with
      | none => rfl
      | some s =>
        have q := (inN_s (by omega)).mp hx
        dsimp only
        rw [if_pos (fun e => by rw [Q5.2.mpr ⟨s, q.1, q.2, e⟩] at c8; cases c8)]
    rw [E]
    exact ⟨rfl, C, Fr.rf⟩
  · -- to 11
    obtain ⟨s, hs, rfl, hout⟩ := Q5.2.mp c8
    clear Q5
    have E0 : fLaw σ (nI s) y = if y = -1 then (nI 1, setLaw σ s none) else match inN y σ.1.1 with
        | none => (-1, σ)
        | some t => if lawB σ.1 s t then (nI 1, setLaw σ s (some t)) else (-2, σ) := by
      unfold fLaw
      rw [inN_nI hs (by omega)]
      dsimp only
      rw [if_neg (fun q => q hout)]
      rfl
    rw [E0] at hM
    clear E0
    by_cases hy : y = -1
    · subst hy
      rw [if_pos rfl] at hM
      refine r_il aX3_law_11 rfl ?_
      refine r_ki aX3_law_12 ?_
      refine r_c_eq aX3_law_13 (fun c13 => ?_) (fun c13 => absurd rfl c13)
      refine r_il aX3_law_29 rfl ?_
      refine r_ki aX3_law_30 ?_
      refine r_c_eq aX3_law_31 (fun c31 => ?_) (fun c31 => absurd rfl c31)
      refine r_al aX3_law_49 rfl ?_
      refine r_getR aX3_law_50 rfl rfl ?_
      refine r_getR aX3_law_53 rfl rfl ?_
      refine r_il aX3_law_56 rfl ?_
      refine r_il aX3_law_57 rfl ?_
      refine r_iast aX3_law_58 rfl (by omega) ?_
      refine r_ki aX3_law_59 ?_
      exact r_iret hM aX3_law_60 rfl ⟨rfl, setLaw_crep (t := none) C (by omega), Fr.si (P := fun a => a < 91) (by omega)⟩
    · rw [if_neg hy] at hM
      refine r_il aX3_law_11 rfl ?_
      refine r_ki aX3_law_12 ?_
      refine r_c_eq aX3_law_13 (fun c13 => absurd c13 hy) (fun c13 => ?_)
      refine r_al aX3_law_16 rfl ?_
      refine r_getR aX3_law_17 rfl rfl ?_
      refine r_il aX3_law_20 rfl ?_
      refine r_VZ1 aX3_law_21 vX2_has rfl (K_X2_has hW hR) (fun x21 h21 Q21 => ?_)
      rw [Q21.1]
      refine r_b_ne aX3_law_24 (fun c24 => ?_) (fun c24 => ?_)
      · obtain ⟨t, ht, rfl⟩ := Q21.2.mp c24
        clear Q21
        rw [inN_nI ht (by omega)] at hM
        dsimp only at hM
        refine r_il aX3_law_29 rfl ?_
        refine r_ki aX3_law_30 ?_
        refine r_c_eq aX3_law_31 (fun c31 => absurd c31 hy) (fun c31 => ?_)
        refine r_al aX3_law_34 rfl ?_
        refine r_getR aX3_law_35 rfl rfl ?_
        refine r_il aX3_law_38 rfl ?_
        refine r_il aX3_law_39 rfl ?_
        refine r_VZ2 aX3_law_40 vX2_isProved rfl (K_X2_isProved hW hR (by omega) (by omega)) (fun x40 h40 Q40 => ?_)
        rw [Q40.1]
        have hb : lawB σ.1 s t = x40 := by rw [Bool.eq_iff_iff, lawB_iff, Q40.2]
        rw [hb] at hM
        refine r_b_ne aX3_law_43 (fun c43 => ?_) (fun c43 => ?_)
        · rw [c43, if_pos rfl] at hM
          refine r_al aX3_law_49 rfl ?_
          refine r_getR aX3_law_50 rfl rfl ?_
          refine r_getR aX3_law_53 rfl rfl ?_
          refine r_il aX3_law_56 rfl ?_
          refine r_il aX3_law_57 rfl ?_
          refine r_iast aX3_law_58 rfl (by omega) ?_
          refine r_ki aX3_law_59 ?_
          exact r_iret hM aX3_law_60 rfl ⟨rfl, setLaw_crep (t := some t) C (by omega), Fr.si (P := fun a => a < 91) (by omega)⟩
        · rw [c43, if_neg (by decide)] at hM
          refine r_ki aX3_law_46 ?_
          exact r_iret hM aX3_law_48 rfl ⟨rfl, C, Fr.rf⟩
      · rw [(inN_n (by omega)).mpr (fun q => by rw [Q21.2.mpr q] at c24; cases c24)] at hM
        dsimp only at hM
        refine r_ki aX3_law_27 ?_
        exact r_iret hM aX3_law_28 rfl ⟨rfl, C, Fr.rf⟩
theorem K_X3_begin {x : Int32} (S : SI σ) (C : CRep h σ) : Con ad mX3_begin [.ref (ad 0), .int x] h (qI fun r h' => r = (fBegin σ x).1 ∧ CRep h' (fBegin σ x).2 ∧ Fr (fun a => a < 91) h h') := by
  have hW := S.ww
  have h20 := hW.n
  have hR := C.1
  have inl : ∀ a, inL 55 a → inLS 55 a := fun a z => Or.inl z
  refine Con.mk vX3_begin.1 vX3_begin.2.2.2.2 [some (.ref (ad 0)), some (.int x)] rfl (Nat.le_of_ble_eq_true rfl) (fun Y hM => ?_)
  refine r_al aX3_begin_0 rfl ?_
  refine r_getR aX3_begin_1 rfl rfl ?_
  refine r_il aX3_begin_4 rfl ?_
  refine r_VZ1 aX3_begin_5 vX2_has rfl (K_X2_has hW hR) (fun x5 h5 Q5 => ?_)
  rw [Q5.1]
  refine r_b_ne aX3_begin_8 (fun c8 => ?_) (fun c8 => ?_)
  · -- to 13
    obtain ⟨s, hs, rfl⟩ := Q5.2.mp c8
    clear Q5
    have E0 : fBegin σ (nI s) = if wh σ.1 s then (rm σ.1 s, setNow σ (some (s, 0, begL s))) else (-2, σ) := by unfold fBegin; rw [inN_nI hs (by omega)]
    rw [E0] at hM
    clear E0
    refine r_al aX3_begin_13 rfl ?_
    refine r_getR aX3_begin_14 rfl rfl ?_
    refine r_VV0 aX3_begin_17 vX2_survey rfl (K_X2_survey hW hR) (fun h17 Q17 => ?_)
    obtain ⟨V1, F1⟩ := Q17
    have R1 := hR.fr F1 (fun a z => Or.inl z.1)
    have C1 : CRep h17 σ := ⟨R1, by rw [(F1 0 (by omega)).1]; exact C.2.1, by rw [(F1 0 (by omega)).1]; exact C.2.2.1, C.2.2.2.1.fr F1 (fun a z => by omega), fun k hk => (C.2.2.2.2.1 k hk).fr F1 (fun a z => by omega), fun _ => V1⟩
    have F91 : Fr (fun a => a < 91) h h17 := F1.mono (fun a z => by omega)
    refine r_al aX3_begin_20 rfl ?_
    refine r_getR aX3_begin_21 rfl rfl ?_
    refine r_il aX3_begin_24 rfl ?_
    refine r_VZ1 aX3_begin_25 vX2_isWholeFrom rfl (K_X2_isWholeFrom hW R1 hs (V1.1 s hs)) (fun x25 h25 Q25 => ?_)
    rw [Q25.1]
    refine r_b_ne aX3_begin_28 (fun c28 => ?_) (fun c28 => ?_)
    · rw [← Q25.2, c28, if_pos rfl] at hM
      refine r_al aX3_begin_34 rfl ?_
      refine r_getR aX3_begin_35 rfl rfl ?_
      refine r_il aX3_begin_38 rfl ?_
      refine r_VV1 aX3_begin_39 vX0_beginAt rfl (K_X0_beginAt isL55 (by omega)) (fun h39 Q39 => ?_)
      obtain ⟨L2, s2, t2, F2⟩ := Q39
      have e49 : h39.1 49 s = rm σ.1 s := by rw [(F2 49 (fun z => by have := z.1; omega)).1]; exact V1.2.1 s hs
      refine r_al aX3_begin_42 rfl ?_
      refine r_getR aX3_begin_43 rfl rfl ?_
      refine r_getR aX3_begin_46 rfl rfl ?_
      refine r_il aX3_begin_49 rfl ?_
      refine r_xI aX3_begin_50 rfl (by omega) e49 ?_
      exact r_iret hM aX3_begin_51 rfl ⟨rfl, C1.now F2 (fun a z => Or.inl (Or.inl z)) ⟨s2, t2, L2⟩ (fun _ => V1), F91.tr (F2.mono (fun a z => by have := z.2; omega))⟩
    · rw [← Q25.2, c28, if_neg (by decide)] at hM
      refine r_ki aX3_begin_31 ?_
      exact r_iret hM aX3_begin_33 rfl ⟨rfl, C1, F91⟩
  · -- to 11
    refine r_ki aX3_begin_11 ?_
    exact r_iret hM aX3_begin_12 rfl (by unfold fBegin; rw [(inN_n (by omega)).mpr (fun q => by rw [Q5.2.mpr q] at c8; cases c8)]; exact ⟨rfl, C, Fr.rf⟩)
end CLASS3

/-! the reference, whole -/
def MO (h : Mem) (l : Nat) (o : Option LL) : Prop := match o with
  | none => h.1 98 l = bI false
  | some x => h.1 98 l = bI true ∧ h.1 99 l = nI x.1 ∧ h.1 100 l = nI x.2.1 ∧ ML h l x.2.2.1 x.2.2.2.1 x.2.2.2.2
def MRep (h : Mem) (σ : Sta) : Prop := MW h σ.1 ∧ h.1 91 7 = nI σ.2.1 ∧ h.1 91 8 = bI σ.2.2.1 ∧ MO h 0 σ.2.2.2.1 ∧ (∀ k, k < 3 → MO h (1 + k) (σ.2.2.2.2 k)) ∧ MK h σ.1
theorem MO.is {h : Mem} {l : Nat} {o : Option LL} (H : MO h l o) : h.1 98 l = bI o.isSome := by
  cases o with
  | none => exact H
  | some x => exact H.1
theorem MO.cong {h h' : Mem} {l : Nat} {o : Option LL} (H : MO h l o) (f : ∀ a, 98 ≤ a → a < 107 → h'.1 a = h.1 a ∧ h'.2 a = h.2 a) : MO h' l o := by
  cases o with
  | none =>
    show h'.1 98 l = _
    rw [(f 98 (by omega) (by omega)).1]; exact H
  | some x =>
    obtain ⟨a, b, c, d⟩ := H
    exact ⟨by rw [(f 98 (by omega) (by omega)).1]; exact a, by rw [(f 99 (by omega) (by omega)).1]; exact b, by rw [(f 100 (by omega) (by omega)).1]; exact c, d.cong (fun a h1 h2 => f a (by omega) h2)⟩
theorem MO.lk {h h' : Mem} {l : Nat} {o : Option LL} (H : MO h l o) (K : Lk h h') : MO h' l o := H.cong (fun a h1 h2 => ⟨K.row (by omega) (by omega) (by omega), by rw [K.2.1]⟩)
theorem Lk.fr {h h' : Mem} (K : Lk h h') : Fr (fun a => 91 ≤ a) h h' := K.1.mono (fun a z => by omega)
theorem MRep.lk {h h' : Mem} {σ : Sta} (C : MRep h σ) (K : Lk h h') (k : MK h' σ.1) : MRep h' σ := ⟨C.1.lk K, by rw [K.2.2 7 (by omega)]; exact C.2.1, by rw [K.2.2 8 (by omega)]; exact C.2.2.1, C.2.2.2.1.lk K, fun k hk => (C.2.2.2.2.1 k hk).lk K, k⟩
theorem ML.gl {h h' : Mem} {l l' : Nat} {L : List Itm} {F R : Nat → Nat} (H : ML h l' L F R) (K : GL l h h') (hne : l' ≠ l) (hl : L.length ≤ 60) : ML h' l' L F R := by
  obtain ⟨⟨a1, a2, a3, a4⟩, a5, a6, a7⟩ := K.2.2 l' hne
  exact ⟨a4.trans H.1, H.2.1.cong (fun i hi => (a5 i (by omega)).1) (fun i hi => (a5 i (by omega)).2.1) (fun i hi => (a5 i (by omega)).2.2), fun i hi => (a6 i hi).trans (H.2.2.1 i hi), fun i hi => (a7 i hi).trans (H.2.2.2 i hi)⟩
theorem MO.gl {h h' : Mem} {l l' : Nat} {o : Option LL} (H : MO h l' o) (K : GL l h h') (hne : l' ≠ l) (hb : ∀ x, o = some x → x.2.2.1.length ≤ 60) : MO h' l' o := by
  obtain ⟨⟨a1, a2, a3, a4⟩, a5, a6, a7⟩ := K.2.2 l' hne
  cases o with
  | none => exact a1.trans H
  | some x =>
    obtain ⟨a, b, c, d⟩ := H
    exact ⟨a1.trans a, a2.trans b, a3.trans c, d.gl K hne (hb x rfl)⟩
theorem GL.fr {h h' : Mem} {l : Nat} (K : GL l h h') : Fr (fun a => 91 ≤ a) h h' := fun a ha => by
  have ha : ¬ 91 ≤ a := ha
  exact K.1 a (by omega) (by omega) (by omega)
theorem MK.gl {h h' : Mem} {w : Wk} {l : Nat} (H : MK h w) (K : GL l h h') : MK h' w := by
  obtain ⟨lk, a, b⟩ := H
  exact ⟨lk, (K.2.1 18 (by omega)).trans a, fun z => ⟨fun s hs => by rw [(K.1 107 (by omega) (by omega) (by omega)).1]; exact (b z).1 s hs, fun s hs => by rw [(K.1 108 (by omega) (by omega) (by omega)).1]; exact (b z).2 s hs⟩⟩
theorem MRep.now {h h' : Mem} {σ : Sta} {l : Option LL} (S : SI σ) (C : MRep h σ) (K : GL 0 h h') (hL : MO h' 0 l) : MRep h' (setNow σ l) := ⟨C.1.gl K, (K.2.1 7 (by omega)).trans C.2.1, (K.2.1 8 (by omega)).trans C.2.2.1, hL, fun k hk => (C.2.2.2.2.1 k hk).gl K (by omega) (fun x e => (S.2.2.2 k x e).2.1), C.2.2.2.2.2.gl K⟩
theorem MRep.tri {h h' : Mem} {σ : Sta} (S : SI σ) (C : MRep h σ) (K : GL 4 h h') : MRep h' σ := ⟨C.1.gl K, (K.2.1 7 (by omega)).trans C.2.1, (K.2.1 8 (by omega)).trans C.2.2.1, C.2.2.2.1.gl K (by omega) (fun x e => (S.2.2.1 x e).2.1), fun k hk => (C.2.2.2.2.1 k hk).gl K (by omega) (fun x e => (S.2.2.2 k x e).2.1), C.2.2.2.2.2.gl K⟩
theorem MRep.s91 {h : Mem} {σ : Sta} {j : Nat} {x : Int32} (C : MRep h σ) (hj : j = 7 ∨ j = 8) : MW (si h 91 j x) σ.1 ∧ MO (si h 91 j x) 0 σ.2.2.2.1 ∧ (∀ k, k < 3 → MO (si h 91 j x) (1 + k) (σ.2.2.2.2 k)) ∧ MK (si h 91 j x) σ.1 := by
  have f : ∀ a, a ≠ 91 → (si h 91 j x).1 a = h.1 a := fun a ha => si_o ha
  refine ⟨C.1.cong (by rw [si_1, if_neg (by omega)]) (fun a h1 h2 => f a (by omega)), C.2.2.2.1.cong (fun a h1 h2 => ⟨f a (by omega), rfl⟩), fun k hk => (C.2.2.2.2.1 k hk).cong (fun a h1 h2 => ⟨f a (by omega), rfl⟩), ?_⟩
  obtain ⟨lk, a, b⟩ := C.2.2.2.2.2
  exact ⟨lk, by rw [si_1, if_neg (by omega)]; exact a, fun z => ⟨fun s hs => by rw [f 107 (by omega)]; exact (b z).1 s hs, fun s hs => by rw [f 108 (by omega)]; exact (b z).2 s hs⟩⟩
theorem in_M {x : Int32} {n : Nat} {b : Bool} (hn : n < 2147483647) (H : b = true ↔ ¬ x < nI 0 ∧ ¬ nI n - nI 1 < x) : b = (inN x n).isSome := by
  rcases Nat.eq_zero_or_pos n with z | z
  · rw [z] at H ⊢
    have : inN x 0 = none := by
      unfold inN
      rw [if_neg]
      rintro ⟨a, b⟩
      exact b (by rw [Int32.le_iff_toInt_le, nI_toInt (by decide)]; rw [Int32.lt_iff_toInt_lt, Int32.toInt_zero] at a; omega)
    rw [this]
    cases hb : b with
    | false => rfl
    | true =>
      obtain ⟨h1, h2⟩ := H.mp hb
      exfalso
      apply h2
      rw [show nI 0 - nI 1 = (-1 : Int32) from by decide, Int32.lt_iff_toInt_lt, show (-1 : Int32).toInt = -1 from by decide]
      rw [Int32.lt_iff_toInt_lt, nI_toInt (by decide)] at h1
      clear H
      omega
  · obtain ⟨m, hm⟩ : ∃ m, n = m + 1 := ⟨n - 1, by clear H; omega⟩
    rw [hm] at H ⊢
    rw [pk_sub (by clear H; omega), Nat.add_sub_cancel] at H
    exact in_N (by clear H; omega) H
section MODEL6
variable {ad : Nat → Nat} {h : Mem} {σ : Sta}
theorem K_X4_order {x : Int32} (C : MRep h σ) : Con ad mX4_order [.ref (ad 91), .int x] h (qI fun r h' => r = (fOrder σ x).1 ∧ MRep h' (fOrder σ x).2 ∧ Fr (fun a => 91 ≤ a) h h') := by
  have e7 := C.2.1
  refine Con.mk vX4_order.1 vX4_order.2.2.2.2 [some (.ref (ad 91)), some (.int x), none] rfl (Nat.le_of_ble_eq_true rfl) (fun Y hM => ?_)
  refine r_il aX4_order_0 rfl ?_
  refine r_ki aX4_order_1 ?_
  refine r_ki aX4_order_2 ?_
  refine r_SZ3 aX4_order_3 vX4_in (K_X4_in) (fun x3 h3 Q3 => ?_)
  rw [Q3.1]
  refine r_b_ne aX4_order_6 (fun c6 => ?_) (fun c6 => ?_)
  · -- to 11
    obtain ⟨k, hk, rfl, hx⟩ := inN_ex (by decide) ((in_N (n := 2) (by decide) Q3.2).symm.trans c6)
    refine r_al aX4_order_11 rfl ?_
    refine r_gI aX4_order_12 rfl rfl e7 ?_
    refine r_is2 aX4_order_15 rfl ?_
    refine r_al aX4_order_16 rfl ?_
    refine r_il aX4_order_17 rfl ?_
    refine r_putI aX4_order_18 rfl rfl rfl ?_
    refine r_il aX4_order_21 rfl ?_
    refine r_iret hM aX4_order_22 rfl ?_
    unfold fOrder
    rw [hx]
    obtain ⟨a, b, c, d⟩ := C.s91 (j := 7) (x := nI k) (Or.inl rfl)
    exact ⟨rfl, ⟨a, by simp [si_1], by rw [si_1]; simp; exact C.2.2.1, b, c, d⟩, Fr.si (P := fun a => 91 ≤ a) (by omega)⟩
  · -- to 9
    refine r_ki aX4_order_9 ?_
    exact r_iret hM aX4_order_10 rfl (by unfold fOrder; rw [inN_no ((in_N (n := 2) (by decide) Q3.2).symm.trans c6)]; exact ⟨rfl, C, Fr.rf⟩)
theorem K_X4_joined {b : Bool} (C : MRep h σ) : Con ad mX4_joined [.ref (ad 91), .int (bI b)] h (qI fun r h' => r = (fJoined σ b).1 ∧ MRep h' (fJoined σ b).2 ∧ Fr (fun a => 91 ≤ a) h h') := by
  have e8 := C.2.2.1
  have key : MRep (si h 91 8 (bI b)) (fJoined σ b).2 := by
    obtain ⟨a, b', c, d⟩ := C.s91 (j := 8) (x := bI b) (Or.inr rfl)
    exact ⟨a, by rw [si_1]; simp; exact C.2.1, by simp [si_1, fJoined], b', c, d⟩
  refine Con.mk vX4_joined.1 vX4_joined.2.2.2.2 [some (.ref (ad 91)), some (.int (bI b)), none] rfl (Nat.le_of_ble_eq_true rfl) (fun Y hM => ?_)
  refine r_al aX4_joined_0 rfl ?_
  refine r_gI aX4_joined_1 rfl rfl e8 ?_
  refine r_b_eq aX4_joined_4 (fun c4 => ?_) (fun c4 => ?_)
  · -- to 11
    refine r_ki aX4_joined_11 ?_
    refine r_is2 aX4_joined_12 rfl ?_
    refine r_al aX4_joined_13 rfl ?_
    refine r_il aX4_joined_14 rfl ?_
    refine r_putZ aX4_joined_15 rfl rfl rfl ?_
    refine r_il aX4_joined_18 rfl ?_
    exact r_iret hM aX4_joined_19 rfl ⟨by unfold fJoined; rw [c4]; rfl, key, Fr.si (P := fun a => 91 ≤ a) (by omega)⟩
  · -- to 7
    refine r_ki aX4_joined_7 ?_
    refine r_go aX4_joined_8 ?_
    refine r_is2 aX4_joined_12 rfl ?_
    refine r_al aX4_joined_13 rfl ?_
    refine r_il aX4_joined_14 rfl ?_
    refine r_putZ aX4_joined_15 rfl rfl rfl ?_
    refine r_il aX4_joined_18 rfl ?_
    exact r_iret hM aX4_joined_19 rfl ⟨by unfold fJoined; rw [c4]; rfl, key, Fr.si (P := fun a => 91 ≤ a) (by omega)⟩
theorem K_X4_end {x y : Int32} (S : SI σ) (C : MRep h σ) : Con ad mX4_end [.ref (ad 91), .int x, .int y] h (qL fun r h' => r = fEnd σ x y ∧ MRep h' σ ∧ Fr (fun a => 91 ≤ a) h h') := by
  have e0 := C.2.2.2.1.is
  refine Con.mk vX4_end.1 vX4_end.2.2.2.2 [some (.ref (ad 91)), some (.int x), some (.int y)] rfl (Nat.le_of_ble_eq_true rfl) (fun Y hM => ?_)
  refine r_il aX4_end_0 rfl ?_
  refine r_SZ1 aX4_end_1 vX4_isSet (K_X4_isSet) (fun x1 h1 Q1 => ?_)
  rw [Q1.1]
  refine r_b_eq aX4_end_4 (fun c4 => ?_) (fun c4 => ?_)
  · -- to 25
    refine r_kl aX4_end_25 ?_
    exact r_lret hM aX4_end_26 rfl ⟨by unfold fEnd; rw [inN_no (Q1.2.symm.trans c4)], C, Fr.rf⟩
  · -- to 7
    refine r_il aX4_end_7 rfl ?_
    refine r_ki aX4_end_8 ?_
    refine r_ki aX4_end_9 ?_
    refine r_SZ3 aX4_end_10 vX4_in (K_X4_in) (fun x10 h10 Q10 => ?_)
    rw [Q10.1]
    refine r_b_eq aX4_end_13 (fun c13 => ?_) (fun c13 => ?_)
    · -- to 25
      refine r_kl aX4_end_25 ?_
      exact r_lret hM aX4_end_26 rfl ⟨by obtain ⟨a, -, -, ha⟩ := inN_ex (by decide) (Q1.2.symm.trans c4); unfold fEnd; rw [ha, inN_no ((in_N (n := 1) (by decide) Q10.2).symm.trans c13)], C, Fr.rf⟩
    · -- to 16
      obtain ⟨a, -, -, ha⟩ := inN_ex (by decide) (Q1.2.symm.trans c4)
      obtain ⟨b, hb, rfl, hb2⟩ := inN_ex (by decide) ((in_N (n := 1) (by decide) Q10.2).symm.trans c13)
      clear Q10
      refine r_al aX4_end_16 rfl ?_
      refine r_getR aX4_end_17 rfl rfl ?_
      refine r_ki aX4_end_20 ?_
      refine r_xZ aX4_end_21 rfl (by omega) e0 ?_
      refine r_b_ne aX4_end_22 (fun c22 => ?_) (fun c22 => ?_)
      · -- to 27
        obtain ⟨l, hl⟩ := Option.isSome_iff_exists.mp c22
        have LO1 := C.2.2.2.1
        rw [hl] at LO1
        obtain ⟨a0, a1, a2, a3⟩ := LO1
        have hI := (S.2.2.1 l hl).2
        refine r_il aX4_end_27 rfl ?_
        refine r_nz_ne aX4_end_28 (by omega) (fun c28 => ?_) (fun c28 => ?_)
        · -- to 40
          refine r_al aX4_end_40 rfl ?_
          refine r_ki aX4_end_41 ?_
          refine r_il aX4_end_42 rfl ?_
          refine r_VL2 aX4_end_43 vX4_high rfl (K_X4_high (l := 0) S.ww C.1 C.2.2.2.2.2 a3 (by omega) (hI.ix S.ww).iw) (fun x43 h43 Q43 => ?_)
          exact r_lret hM aX4_end_46 rfl ⟨by rw [Q43.1]; unfold fEnd; rw [ha, hb2, hl, show b = 1 by omega]; rfl, C.lk Q43.2.2 Q43.2.1, Q43.2.2.fr⟩
        · -- to 31
          refine r_al aX4_end_31 rfl ?_
          refine r_ki aX4_end_32 ?_
          refine r_il aX4_end_33 rfl ?_
          refine r_VL2 aX4_end_34 vX4_low rfl (K_X4_low (l := 0) S.ww C.1 C.2.2.2.2.2 a3 (by omega) (hI.ix S.ww).iw) (fun x34 h34 Q34 => ?_)
          refine r_go aX4_end_37 ?_
          exact r_lret hM aX4_end_46 rfl ⟨by rw [Q34.1]; unfold fEnd; rw [ha, hb2, hl, c28]; rfl, C.lk Q34.2.2 Q34.2.1, Q34.2.2.fr⟩
      · -- to 25
        refine r_kl aX4_end_25 ?_
        exact r_lret hM aX4_end_26 rfl ⟨by unfold fEnd; rw [ha, hb2, isN c22]; rcases (by omega : b = 0 ∨ b = 1) with z | z <;> (rw [z]; rfl), C, Fr.rf⟩
theorem K_X4_item {x y : Int32} (S : SI σ) (C : MRep h σ) : Con ad mX4_item [.ref (ad 91), .int x, .int y] h (qI fun r h' => r = fItem σ x y ∧ MRep h' σ ∧ Fr (fun a => 91 ≤ a) h h') := by
  have e0 := C.2.2.2.1.is
  refine Con.mk vX4_item.1 vX4_item.2.2.2.2 [some (.ref (ad 91)), some (.int x), some (.int y)] rfl (Nat.le_of_ble_eq_true rfl) (fun Y hM => ?_)
  refine r_il aX4_item_0 rfl ?_
  refine r_ki aX4_item_1 ?_
  refine r_ki aX4_item_2 ?_
  refine r_SZ3 aX4_item_3 vX4_in (K_X4_in) (fun x3 h3 Q3 => ?_)
  rw [Q3.1]
  refine r_b_ne aX4_item_6 (fun c6 => ?_) (fun c6 => ?_)
  · -- to 11
    obtain ⟨k, hk, rfl, hy⟩ := inN_ex (by decide) ((in_N (n := 1) (by decide) Q3.2).symm.trans c6)
    clear Q3
    refine r_al aX4_item_11 rfl ?_
    refine r_getR aX4_item_12 rfl rfl ?_
    refine r_ki aX4_item_15 ?_
    refine r_xZ aX4_item_16 rfl (by omega) e0 ?_
    refine r_b_ne aX4_item_17 (fun c17 => ?_) (fun c17 => ?_)
    · -- to 23
      obtain ⟨l, hl⟩ := Option.isSome_iff_exists.mp c17
      have LO1 := C.2.2.2.1
      rw [hl] at LO1
      obtain ⟨a0, a1, a2, a3⟩ := LO1
      have hI := (S.2.2.1 l hl).2
      have h60 := hI.1
      have hm := a3.1
      have E0 : fItem σ x (nI k) = match inN x l.2.2.1.length with
          | none => -1
          | some i => if k = 0 then nI (gi l.2.2.1 i).1 else nI (gi l.2.2.1 i).2.1 := by
        unfold fItem
        rw [hy]
        dsimp only
        rw [hl]
        rfl
      rw [E0] at hM
      clear E0
      refine r_il aX4_item_23 rfl ?_
      refine r_ki aX4_item_24 ?_
      refine r_al aX4_item_25 rfl ?_
      refine r_getR aX4_item_26 rfl rfl ?_
      refine r_ki aX4_item_29 ?_
      refine r_xI aX4_item_30 rfl (by omega) hm ?_
      refine r_ki aX4_item_31 ?_
      refine r_isub aX4_item_32 ?_
      refine r_SZ3 aX4_item_33 vX4_in (K_X4_in) (fun x33 h33 Q33 => ?_)
      rw [Q33.1]
      refine r_b_ne aX4_item_36 (fun c36 => ?_) (fun c36 => ?_)
      · -- to 43
        obtain ⟨i, hi, rfl, hx⟩ := inN_ex (by omega) ((in_M (n := l.2.2.1.length) (by omega) Q33.2).symm.trans c36)
        clear Q33
        rw [hx] at hM
        dsimp only at hM
        obtain ⟨e1, e2, e3⟩ := a3.2.1.gi hi
        rw [Nat.mul_zero, n0] at e1 e2 e3
        refine r_il aX4_item_43 rfl ?_
        refine r_nz_ne aX4_item_44 (by omega) (fun c44 => ?_) (fun c44 => ?_)
        · -- to 56
          refine r_al aX4_item_56 rfl ?_
          refine r_getR aX4_item_57 rfl rfl ?_
          refine r_il aX4_item_60 rfl ?_
          refine r_xI aX4_item_61 rfl (by omega) e2 ?_
          exact r_iret hM aX4_item_62 rfl ⟨by rw [if_neg c44], C, Fr.rf⟩
        · -- to 47
          refine r_al aX4_item_47 rfl ?_
          refine r_getR aX4_item_48 rfl rfl ?_
          refine r_il aX4_item_51 rfl ?_
          refine r_xI aX4_item_52 rfl (by omega) e1 ?_
          refine r_go aX4_item_53 ?_
          exact r_iret hM aX4_item_62 rfl ⟨by rw [if_pos c44], C, Fr.rf⟩
      · -- to 39
        refine r_ki aX4_item_39 ?_
        refine r_go aX4_item_40 ?_
        exact r_iret hM aX4_item_62 rfl ⟨by rw [inN_no ((in_M (n := l.2.2.1.length) (by omega) Q33.2).symm.trans c36)], C, Fr.rf⟩
    · -- to 20
      refine r_ki aX4_item_20 ?_
      exact r_iret hM aX4_item_22 rfl ⟨by unfold fItem; rw [hy]; dsimp only; rw [isN c17], C, Fr.rf⟩
  · -- to 9
    refine r_ki aX4_item_9 ?_
    exact r_iret hM aX4_item_10 rfl ⟨by unfold fItem; rw [inN_no ((in_N (n := 1) (by decide) Q3.2).symm.trans c6)], C, Fr.rf⟩
theorem K_X4_units {x : Int32} (S : SI σ) (C : MRep h σ) : Con ad mX4_units [.ref (ad 91), .int x] h (qL fun r h' => r = fUnits σ x ∧ MRep h' σ ∧ Fr (fun a => 91 ≤ a) h h') := by
  have e0 := C.2.2.2.1.is
  refine Con.mk vX4_units.1 vX4_units.2.2.2.2 [some (.ref (ad 91)), some (.int x)] rfl (Nat.le_of_ble_eq_true rfl) (fun Y hM => ?_)
  refine r_al aX4_units_0 rfl ?_
  refine r_getR aX4_units_1 rfl rfl ?_
  refine r_ki aX4_units_4 ?_
  refine r_xZ aX4_units_5 rfl (by omega) e0 ?_
  refine r_b_eq aX4_units_6 (fun c6 => ?_) (fun c6 => ?_)
  · -- to 34
    refine r_kl aX4_units_34 ?_
    exact r_lret hM aX4_units_35 rfl ⟨by unfold fUnits; rw [isN c6], C, Fr.rf⟩
  · -- to 9
    obtain ⟨l, hl⟩ := Option.isSome_iff_exists.mp c6
    have LO1 := C.2.2.2.1
    rw [hl] at LO1
    obtain ⟨a0, a1, a2, a3⟩ := LO1
    have h60 := (S.2.2.1 l hl).2.1
    have hm := a3.1
    have E0 : fUnits σ x = match inN x l.2.2.1.length with
        | none => lN 0
        | some i => lN (gi l.2.2.1 i).2.2 := by
      unfold fUnits
      rw [hl]
      rfl
    rw [E0] at hM
    clear E0
    refine r_il aX4_units_9 rfl ?_
    refine r_ki aX4_units_10 ?_
    refine r_al aX4_units_11 rfl ?_
    refine r_getR aX4_units_12 rfl rfl ?_
    refine r_ki aX4_units_15 ?_
    refine r_xI aX4_units_16 rfl (by omega) hm ?_
    refine r_ki aX4_units_17 ?_
    refine r_isub aX4_units_18 ?_
    refine r_SZ3 aX4_units_19 vX4_in (K_X4_in) (fun x19 h19 Q19 => ?_)
    rw [Q19.1]
    refine r_b_eq aX4_units_22 (fun c22 => ?_) (fun c22 => ?_)
    · -- to 34
      refine r_kl aX4_units_34 ?_
      exact r_lret hM aX4_units_35 rfl ⟨by rw [inN_no ((in_M (n := l.2.2.1.length) (by omega) Q19.2).symm.trans c22)], C, Fr.rf⟩
    · -- to 25
      obtain ⟨i, hi, rfl, hx⟩ := inN_ex (by omega) ((in_M (n := l.2.2.1.length) (by omega) Q19.2).symm.trans c22)
      clear Q19
      rw [hx] at hM
      obtain ⟨e1, e2, e3⟩ := a3.2.1.gi hi
      rw [Nat.mul_zero, n0] at e1 e2 e3
      refine r_al aX4_units_25 rfl ?_
      refine r_getR aX4_units_26 rfl rfl ?_
      refine r_il aX4_units_29 rfl ?_
      refine r_xL aX4_units_30 rfl (by omega) e3 ?_
      refine r_go aX4_units_31 ?_
      exact r_lret hM aX4_units_35 rfl ⟨rfl, C, Fr.rf⟩
theorem K_X4_found {x : Int32} (S : SI σ) (C : MRep h σ) : Con ad mX4_found [.ref (ad 91), .int x] h (qL fun r h' => r = fFound σ x ∧ MRep h' σ ∧ Fr (fun a => 91 ≤ a) h h') := by
  have e0 := C.2.2.2.1.is
  refine Con.mk vX4_found.1 vX4_found.2.2.2.2 [some (.ref (ad 91)), some (.int x)] rfl (Nat.le_of_ble_eq_true rfl) (fun Y hM => ?_)
  refine r_al aX4_found_0 rfl ?_
  refine r_getR aX4_found_1 rfl rfl ?_
  refine r_ki aX4_found_4 ?_
  refine r_xZ aX4_found_5 rfl (by omega) e0 ?_
  refine r_b_eq aX4_found_6 (fun c6 => ?_) (fun c6 => ?_)
  · -- to 28
    refine r_kl aX4_found_28 ?_
    exact r_lret hM aX4_found_29 rfl ⟨by unfold fFound; rw [isN c6], C, Fr.rf⟩
  · -- to 9
    refine r_il aX4_found_9 rfl ?_
    refine r_ki aX4_found_10 ?_
    refine r_ki aX4_found_11 ?_
    refine r_SZ3 aX4_found_13 vX4_in (K_X4_in) (fun x13 h13 Q13 => ?_)
    rw [Q13.1]
    refine r_b_eq aX4_found_16 (fun c16 => ?_) (fun c16 => ?_)
    · -- to 28
      refine r_kl aX4_found_28 ?_
      exact r_lret hM aX4_found_29 rfl ⟨by unfold fFound; rw [inN_no ((in_N (n := 7) (by decide) Q13.2).symm.trans c16)]; cases σ.2.2.2.1 <;> rfl, C, Fr.rf⟩
    · -- to 19
      obtain ⟨l, hl⟩ := Option.isSome_iff_exists.mp c6
      have LO1 := C.2.2.2.1
      rw [hl] at LO1
      obtain ⟨a0, a1, a2, a3⟩ := LO1
      obtain ⟨o, ho, rfl, hx⟩ := inN_ex (by decide) ((in_N (n := 7) (by decide) Q13.2).symm.trans c16)
      clear Q13
      have e := a3.2.2.1 o ho
      rw [Nat.mul_zero, n0] at e
      refine r_al aX4_found_19 rfl ?_
      refine r_getR aX4_found_20 rfl rfl ?_
      refine r_il aX4_found_23 rfl ?_
      refine r_xL aX4_found_24 rfl (by omega) e ?_
      refine r_go aX4_found_25 ?_
      exact r_lret hM aX4_found_29 rfl ⟨by unfold fFound; rw [hl, hx], C, Fr.rf⟩
theorem K_X4_rests {x : Int32} (S : SI σ) (C : MRep h σ) : Con ad mX4_rests [.ref (ad 91), .int x] h (qL fun r h' => r = fRests σ x ∧ MRep h' σ ∧ Fr (fun a => 91 ≤ a) h h') := by
  have e0 := C.2.2.2.1.is
  have h20 := S.ww.n
  refine Con.mk vX4_rests.1 vX4_rests.2.2.2.2 [some (.ref (ad 91)), some (.int x)] rfl (Nat.le_of_ble_eq_true rfl) (fun Y hM => ?_)
  refine r_al aX4_rests_0 rfl ?_
  refine r_getR aX4_rests_1 rfl rfl ?_
  refine r_ki aX4_rests_4 ?_
  refine r_xZ aX4_rests_5 rfl (by omega) e0 ?_
  refine r_b_eq aX4_rests_6 (fun c6 => ?_) (fun c6 => ?_)
  · -- to 26
    refine r_kl aX4_rests_26 ?_
    exact r_lret hM aX4_rests_27 rfl ⟨by unfold fRests; rw [isN c6], C, Fr.rf⟩
  · -- to 9
    refine r_al aX4_rests_9 rfl ?_
    refine r_il aX4_rests_10 rfl ?_
    refine r_VZ1 aX4_rests_11 vX4_isState rfl (K_X4_isState S.ww C.1) (fun x11 h11 Q11 => ?_)
    rw [Q11.1]
    refine r_b_eq aX4_rests_14 (fun c14 => ?_) (fun c14 => ?_)
    · -- to 26
      refine r_kl aX4_rests_26 ?_
      exact r_lret hM aX4_rests_27 rfl ⟨by unfold fRests; rw [inN_no (Q11.2.symm.trans c14)]; cases σ.2.2.2.1 <;> rfl, C, Fr.rf⟩
    · -- to 17
      obtain ⟨l, hl⟩ := Option.isSome_iff_exists.mp c6
      have LO1 := C.2.2.2.1
      rw [hl] at LO1
      obtain ⟨a0, a1, a2, a3⟩ := LO1
      obtain ⟨s, hs, rfl, hx⟩ := inN_ex (by omega) (Q11.2.symm.trans c14)
      have e := a3.2.2.2 s (by omega)
      rw [Nat.mul_zero, n0] at e
      refine r_al aX4_rests_17 rfl ?_
      refine r_getR aX4_rests_18 rfl rfl ?_
      refine r_il aX4_rests_21 rfl ?_
      refine r_xL aX4_rests_22 rfl (by omega) e ?_
      refine r_go aX4_rests_23 ?_
      exact r_lret hM aX4_rests_27 rfl ⟨by unfold fRests; rw [hl, hx], C, Fr.rf⟩
/-- one step by hand -/
theorem MRep.go {h' : Mem} {l : LL} {st : Nat} {m : Lst} (S : SI σ) (C : MRep h σ) (e : σ.2.2.2.1 = some l) (a1 : ML h' 0 m.1 m.2.1 m.2.2) (a2 : h'.1 98 0 = h.1 98 0) (a3 : h'.1 99 0 = h.1 99 0) (a4 : h'.1 100 0 = nI st) (K : GL 0 h h') : MRep h' (setNow σ (some (l.1, st, m))) := by
  have LO1 := C.2.2.2.1
  rw [e] at LO1
  exact C.now S K ⟨a2.trans LO1.1, a3.trans LO1.2.1, a4, a1⟩
theorem K_X4_grow {x : Int32} (S : SI σ) (C : MRep h σ) : Con ad mX4_grow [.ref (ad 91), .int x] h (qI fun r h' => r = (fGrow σ x).1 ∧ MRep h' (fGrow σ x).2 ∧ Fr (fun a => 91 ≤ a) h h') := by
  have e0 := C.2.2.2.1.is
  have ho := S.2.1
  refine Con.mk vX4_grow.1 vX4_grow.2.2.2.2 [some (.ref (ad 91)), some (.int x), none] rfl (Nat.le_of_ble_eq_true rfl) (fun Y hM => ?_)
  refine r_il aX4_grow_0 rfl ?_
  refine r_ki aX4_grow_1 ?_
  refine r_ki aX4_grow_2 ?_
  refine r_SZ3 aX4_grow_5 vX4_in (K_X4_in) (fun x5 h5 Q5 => ?_)
  rw [Q5.1]
  refine r_b_ne aX4_grow_8 (fun c8 => ?_) (fun c8 => ?_)
  · -- to 13
    obtain ⟨n, hn, rfl, hx⟩ := inN_ex (by decide) ((in_N (n := 500) (by decide) Q5.2).symm.trans c8)
    clear Q5
    refine r_al aX4_grow_13 rfl ?_
    refine r_getR aX4_grow_14 rfl rfl ?_
    refine r_ki aX4_grow_17 ?_
    refine r_xZ aX4_grow_18 rfl (by omega) e0 ?_
    refine r_b_ne aX4_grow_19 (fun c19 => ?_) (fun c19 => ?_)
    · -- to 25
      obtain ⟨l, hl⟩ := Option.isSome_iff_exists.mp c19
      have E0 : fGrow σ (nI n) = (nI (goN σ.1 σ.2.2.1 σ.2.1 n l.2.2).1, setNow σ (some (l.1, l.2.1 + (goN σ.1 σ.2.2.1 σ.2.1 n l.2.2).1, (goN σ.1 σ.2.2.1 σ.2.1 n l.2.2).2))) := by
        unfold fGrow
        rw [hx]
        dsimp only
        rw [hl]
      rw [E0] at hM
      clear E0
      have hI := S.2.2.1 l hl
      have key : ∀ (k i : Nat) (g : Mem) (m : Lst), n - i = k → i ≤ n → goN σ.1 σ.2.2.1 σ.2.1 n l.2.2 = (i + (goN σ.1 σ.2.2.1 σ.2.1 k m).1, (goN σ.1 σ.2.2.1 σ.2.1 k m).2) → LI σ.1 m → MRep g (setNow σ (some (l.1, l.2.1 + i, m))) → Fr (fun a => 91 ≤ a) h g → G Y ad mX4_grow 27 [some (.ref (ad 91)), some (.int (nI n)), some (.int (nI i))] [] g := by
        intro k
        induction k with
        | zero =>
          intro i g m hk0 hi hE hIg Cg hF
          have e : i = n := by omega
          subst e
          refine r_il aX4_grow_27 rfl ?_
          refine r_il aX4_grow_28 rfl ?_
          refine r_n_ge aX4_grow_29 (by omega) (by omega) (fun c29 => ?_) (fun c29 => by omega)
          refine r_il aX4_grow_50 rfl ?_
          refine r_iret hM aX4_grow_51 rfl ?_
          rw [hE]
          exact ⟨rfl, Cg, hF⟩
        | succ k ih =>
          intro i g m hk0 hi hE hIg Cg hF
          have o1 : n - (i + 1) = k := by omega
          have o2 : i + 1 ≤ n := by omega
          have Sg : SI (setNow σ (some (l.1, l.2.1 + i, m))) := setNow_si S hI.1 hIg
          obtain ⟨b0, b1, b2, b3⟩ := Cg.2.2.2.1
          rw [goN] at hE
          refine r_il aX4_grow_27 rfl ?_
          refine r_il aX4_grow_28 rfl ?_
          refine r_n_ge aX4_grow_29 (by omega) (by omega) (fun c29 => by omega) (fun c29 => ?_)
          refine r_al aX4_grow_32 rfl ?_
          refine r_ki aX4_grow_33 ?_
          refine r_al aX4_grow_34 rfl ?_
          refine r_gI aX4_grow_35 rfl rfl (v := nI σ.2.1) Cg.2.1 ?_
          refine r_VZ2 aX4_grow_38 vX4_goOn rfl (K_X4_goOn (l := 0) (jn := σ.2.2.1) (by omega) S.ww Cg.1 b3 hIg Cg.2.2.1 ho b2) (fun x38 h38 Q38 => ?_)
          obtain ⟨q1, q2, q3, q4, q5, q6⟩ := Q38
          have Cn := Cg.go Sg rfl q2 q3 q4 q5 q6
          have Fn := hF.tr q6.fr
          cases hg : goS σ.1 σ.2.2.1 σ.2.1 m with
          | none =>
            rw [hg] at q1 Cn hE
            refine r_b_eq aX4_grow_41 (fun c41 => ?_) (fun c41 => by rw [q1] at c41; cases c41)
            refine r_il aX4_grow_50 rfl ?_
            refine r_iret hM aX4_grow_51 rfl ?_
            rw [hE]
            exact ⟨rfl, Cn, Fn⟩
          | some m' =>
            rw [hg] at q1 Cn hE
            refine r_b_eq aX4_grow_41 (fun c41 => by rw [q1] at c41; cases c41) (fun c41 => ?_)
            refine r_in2 aX4_grow_44 rfl ?_
            refine r_go aX4_grow_47 ?_
            exact ih (i + 1) h38 m' o1 o2 (by rw [hE]; dsimp only; rw [show i + 1 + (goN σ.1 σ.2.2.1 σ.2.1 k m').1 = i + ((goN σ.1 σ.2.2.1 σ.2.1 k m').1 + 1) by omega]) (goS_li S.ww hIg hg) Cn Fn
      refine r_ki aX4_grow_25 ?_
      refine r_is2 aX4_grow_26 rfl ?_
      exact key n 0 h l.2.2 rfl (by omega) (by rw [Nat.zero_add]) hI.2 (by rw [Nat.add_zero]; show MRep h (σ.1, σ.2.1, σ.2.2.1, some l, σ.2.2.2.2); rw [← hl]; exact C) Fr.rf
    · -- to 22
      refine r_ki aX4_grow_22 ?_
      exact r_iret hM aX4_grow_24 rfl (by unfold fGrow; rw [hx]; dsimp only; rw [isN c19]; exact ⟨rfl, C, Fr.rf⟩)
  · -- to 11
    refine r_ki aX4_grow_11 ?_
    exact r_iret hM aX4_grow_12 rfl (by unfold fGrow; rw [inN_no ((in_N (n := 500) (by decide) Q5.2).symm.trans c8)]; exact ⟨rfl, C, Fr.rf⟩)
end MODEL6

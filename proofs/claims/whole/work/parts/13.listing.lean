/-- nothing, or a number -/
def oI (o : Option Nat) : Int32 := match o with
  | none => -1
  | some n => nI n
def bitAt (x : Int32) (i : Nat) : Bool := decide ((x >>> (nI i &&& 31)) &&& nI 1 = nI 1)
theorem bitAt_t {x : Int32} {i : Nat} (h : (x >>> (nI i &&& 31)) &&& nI 1 = nI 1) : bitAt x i = true := decide_eq_true h
theorem bitAt_f {x : Int32} {i : Nat} (h : ¬ (x >>> (nI i &&& 31)) &&& nI 1 = nI 1) : bitAt x i = false := decide_eq_false h
/-- found units of a set -/
def fSum (F : Nat → Nat) (set : Int32) : Nat → Nat
  | 0 => 0
  | i + 1 => fSum F set i + if bitAt set i then F i else 0
/-- the first item of a state and a depth -/
def ixOf (s d : Nat) : List Itm → Nat → Option Nat
  | [], _ => none
  | p :: t, o => if p.1 = s ∧ p.2.1 = d then some o else ixOf s d t (o + 1)
/-- a listing of the class at q -/
def LR (h : Mem) (q : Nat) (L : List Itm) (F R : Nat → Nat) : Prop := h.1 q 2 = nI L.length ∧ Items h (q + 1) (q + 2) (q + 3) 0 L ∧ Nums h (q + 4) 0 8 F ∧ Nums h (q + 5) 0 20 R ∧ Nums h (q + 6) 0 20 (fun s => R s + opAt L s)
def inL (q a : Nat) : Prop := q ≤ a ∧ a < q + 7
/-- what is true of items -/
def IW (L : List Itm) : Prop := L.length ≤ 60 ∧ ∀ p ∈ L, p.1 < 20 ∧ p.2.1 ≤ 40 ∧ p.2.2 ≤ 2 ^ 60
theorem IW.at {L : List Itm} (H : IW L) {i : Nat} (hi : i < L.length) : L[i].1 < 20 ∧ L[i].2.1 ≤ 40 ∧ L[i].2.2 ≤ 2 ^ 60 := H.2 _ (List.getElem_mem hi)
theorem n0 (i : Nat) : 0 + i = i := Nat.zero_add i
section LISTING
variable {ad : Nat → Nat} {h : Mem} {q : Nat} {L : List Itm} {F R : Nat → Nat}
theorem K_X0_exists (hq : IsL q) : Con ad mX0_exists [.ref (ad q)] h (qZ fun b h' => h' = h ∧ (b = true ↔ h.1 q 0 ≠ -1)) := by
  refine Con.mk vX0_exists.1 vX0_exists.2.2.2.2 [some (.ref (ad q))] rfl (Nat.le_of_ble_eq_true rfl) (fun Y hM => ?_)
  refine r_al aX0_exists_0 rfl ?_
  refine r_getI aX0_exists_1 hq.1 rfl ?_
  refine r_ki aX0_exists_4 ?_
  refine r_c_eq aX0_exists_5 (fun c5 => ?_) (fun c5 => ?_)
  · -- to 12
    refine r_ki aX0_exists_12 ?_
    exact r_zF hM aX0_exists_13 rfl ⟨rfl, by simp [c5]⟩
  · -- to 8
    refine r_ki aX0_exists_8 ?_
    refine r_go aX0_exists_9 ?_
    exact r_zT hM aX0_exists_13 rfl ⟨rfl, by simp [c5]⟩
theorem K_X0_hasItem {x : Int32} {n : Nat} (hq : IsL q) (hn : h.1 q 2 = nI n) (hb : n ≤ 60) : Con ad mX0_hasItem [.ref (ad q), .int x] h (qZ fun b h' => h' = h ∧ (b = true ↔ ∃ j, j < n ∧ x = nI j)) := by
  refine Con.mk vX0_hasItem.1 vX0_hasItem.2.2.2.2 [some (.ref (ad q)), some (.int x)] rfl (Nat.le_of_ble_eq_true rfl) (fun Y hM => ?_)
  refine r_il aX0_hasItem_0 rfl ?_
  refine r_z_lt aX0_hasItem_1 (fun c1 => ?_) (fun c1 => ?_)
  · -- to 16
    refine r_ki aX0_hasItem_16 ?_
    exact r_zF hM aX0_hasItem_17 rfl ⟨rfl, ⟨fun z => (by cases z), fun ⟨j, hj, e⟩ => absurd e (nI_neg c1 j (by omega))⟩⟩
  · -- to 4
    refine r_il aX0_hasItem_4 rfl ?_
    refine r_al aX0_hasItem_5 rfl ?_
    refine r_gI aX0_hasItem_6 hq.1 rfl hn ?_
    refine r_c_ge aX0_hasItem_9 (fun c9 => ?_) (fun c9 => ?_)
    · -- to 16
      refine r_ki aX0_hasItem_16 ?_
      exact r_zF hM aX0_hasItem_17 rfl ⟨rfl, ⟨fun z => (by cases z), fun ⟨j, hj, e⟩ => absurd e (nI_big c9 j hj (by omega))⟩⟩
    · -- to 12
      refine r_ki aX0_hasItem_12 ?_
      refine r_go aX0_hasItem_13 ?_
      exact r_zT hM aX0_hasItem_17 rfl ⟨rfl, ⟨fun _ => nI_split c1 c9 (by omega), fun _ => rfl⟩⟩
theorem K_X0_forget (hq : IsL q) : Con ad mX0_forget [.ref (ad q)] h (qV fun h' => h'.1 q 0 = -1 ∧ h'.1 q 1 = nI 0 ∧ h'.1 q 2 = nI 0 ∧ Fr (fun a => a = q) h h') := by
  refine Con.mk vX0_forget.1 vX0_forget.2.2.2.2 [some (.ref (ad q))] rfl (Nat.le_of_ble_eq_true rfl) (fun Y hM => ?_)
  refine r_al aX0_forget_0 rfl ?_
  refine r_ki aX0_forget_1 ?_
  refine r_putI aX0_forget_2 hq.1 rfl rfl ?_
  refine r_al aX0_forget_5 rfl ?_
  refine r_ki aX0_forget_6 ?_
  refine r_putI aX0_forget_7 hq.1 rfl rfl ?_
  refine r_al aX0_forget_10 rfl ?_
  refine r_ki aX0_forget_11 ?_
  refine r_putI aX0_forget_12 hq.1 rfl rfl ?_
  exact r_vret hM aX0_forget_15 rfl ⟨by simp [si_1], by simp [si_1], by simp [si_1], (Fr.si (P := fun a => a = q) rfl).tr ((Fr.si (P := fun a => a = q) rfl).tr (Fr.si (P := fun a => a = q) rfl))⟩
theorem K_X0_addEnded {o m : Nat} (hq : IsL q) (ho : o < 8) (hL : LR h q L F R) : Con ad mX0_addEnded [.ref (ad q), .int (nI o), .long (lN m)] h (qV fun h' => LR h' q L (va_up F o (F o + m)) R ∧ h'.1 q = h.1 q ∧ Fr (inL q) h h') := by
  obtain ⟨hn, hI, hF, hR, hH⟩ := hL
  have hv : h.2 (q + 4) o = lN (F o) := by have := hF o ho; rwa [n0] at this
  refine Con.mk vX0_addEnded.1 vX0_addEnded.2.2.2.2 [some (.ref (ad q)), some (.int (nI o)), some (.long (lN m)), none] rfl (Nat.le_of_ble_eq_true rfl) (fun Y hM => ?_)
  refine r_al aX0_addEnded_0 rfl ?_
  refine r_getR aX0_addEnded_1 hq.1 rfl ?_
  refine r_il aX0_addEnded_4 rfl ?_
  refine r_dup2 aX0_addEnded_5 rfl rfl ?_
  refine r_xL aX0_addEnded_6 hq.2.2.2.2.1 (by omega) hv ?_
  refine r_ll aX0_addEnded_7 rfl ?_
  refine r_laddN aX0_addEnded_8 ?_
  refine r_last aX0_addEnded_9 hq.2.2.2.2.1 (by omega) ?_
  refine r_vret hM aX0_addEnded_10 rfl ?_
  refine ⟨⟨hn, ?_, ?_, ?_, ?_⟩, rfl, Fr.sl ⟨by omega, by omega⟩⟩
  · exact hI.cong (fun _ _ => rfl) (fun _ _ => rfl) (fun i _ => by rw [sl_2]; simp)
  · intro i hi
    rw [sl_2]
    by_cases e : i = o
    · subst e; simp [va_up]
    · have := hF i hi
      rw [n0] at this
      simp [va_up, e, this]
  · intro i hi; rw [sl_2]; simpa using hR i hi
  · intro i hi; rw [sl_2]; simpa using hH i hi
theorem K_X0_addLeft {s m : Nat} (hq : IsL q) (hs : s < 20) (hL : LR h q L F R) : Con ad mX0_addLeft [.ref (ad q), .int (nI s), .long (lN m)] h (qV fun h' => LR h' q L F (va_up R s (R s + m)) ∧ h'.1 q = h.1 q ∧ Fr (inL q) h h') := by
  obtain ⟨hn, hI, hF, hR, hH⟩ := hL
  have hv : h.2 (q + 5) s = lN (R s) := by have := hR s hs; rwa [n0] at this
  have hw : h.2 (q + 6) s = lN (R s + opAt L s) := by have := hH s hs; rwa [n0] at this
  refine Con.mk vX0_addLeft.1 vX0_addLeft.2.2.2.2 [some (.ref (ad q)), some (.int (nI s)), some (.long (lN m)), none] rfl (Nat.le_of_ble_eq_true rfl) (fun Y hM => ?_)
  refine r_al aX0_addLeft_0 rfl ?_
  refine r_getR aX0_addLeft_1 hq.1 rfl ?_
  refine r_il aX0_addLeft_4 rfl ?_
  refine r_dup2 aX0_addLeft_5 rfl rfl ?_
  refine r_xL aX0_addLeft_6 hq.2.2.2.2.2.1 (by omega) hv ?_
  refine r_ll aX0_addLeft_7 rfl ?_
  refine r_laddN aX0_addLeft_8 ?_
  refine r_last aX0_addLeft_9 hq.2.2.2.2.2.1 (by omega) ?_
  refine r_al aX0_addLeft_10 rfl ?_
  refine r_getR aX0_addLeft_11 hq.1 rfl ?_
  refine r_il aX0_addLeft_14 rfl ?_
  refine r_dup2 aX0_addLeft_15 rfl rfl ?_
  refine r_xL aX0_addLeft_16 hq.2.2.2.2.2.2 (by omega) (Eq.trans (by simp [si_1, si_2, sl_1, sl_2, sri_1, sri_2, srl_1, srl_2]) hw) ?_
  refine r_ll aX0_addLeft_17 rfl ?_
  refine r_laddN aX0_addLeft_18 ?_
  refine r_last aX0_addLeft_19 hq.2.2.2.2.2.2 (by omega) ?_
  refine r_vret hM aX0_addLeft_20 rfl ?_
  refine ⟨⟨hn, ?_, ?_, ?_, ?_⟩, rfl, (Fr.sl ⟨by omega, by omega⟩).tr (Fr.sl ⟨by omega, by omega⟩)⟩
  · exact hI.cong (fun _ _ => rfl) (fun _ _ => rfl) (fun i _ => by rw [sl_2, sl_2]; simp)
  · intro i hi; rw [sl_2, sl_2]; simpa using hF i hi
  · intro i hi
    rw [sl_2, sl_2]
    by_cases e : i = s
    · subst e; simp [va_up]
    · have := hR i hi
      rw [n0] at this
      simp [va_up, e, this]
  · intro i hi
    rw [sl_2, sl_2]
    by_cases e : i = s
    · subst e; simp [va_up]; congr 1; omega
    · have := hH i hi
      rw [n0] at this
      simp [va_up, e, this]
theorem K_X0_itemAt {s d : Nat} (hq : IsL q) (hW : IW L) (hn : h.1 q 2 = nI L.length) (hI : Items h (q + 1) (q + 2) (q + 3) 0 L) (hs : s < 20) (hd : d ≤ 40) : Con ad mX0_itemAt [.ref (ad q), .int (nI s), .int (nI d)] h (qI fun x h' => h' = h ∧ x = oI (ixOf s d L 0)) := by
  have hl := hW.1
  refine Con.mk vX0_itemAt.1 vX0_itemAt.2.2.2.2 [some (.ref (ad q)), some (.int (nI s)), some (.int (nI d)), none] rfl (Nat.le_of_ble_eq_true rfl) (fun Y hM => ?_)
  have loop : ∀ (k i : Nat), L.length - i = k → i ≤ L.length → ixOf s d L 0 = ixOf s d (L.drop i) i → G Y ad mX0_itemAt 2 [some (.ref (ad q)), some (.int (nI s)), some (.int (nI d)), some (.int (nI i))] [] h := by
    intro k
    induction k with
    | zero =>
      intro i hk hi hx
      refine r_il aX0_itemAt_2 rfl ?_
      refine r_al aX0_itemAt_3 rfl ?_
      refine r_gI aX0_itemAt_4 hq.1 rfl hn ?_
      refine r_n_ge aX0_itemAt_7 (by omega) (by omega) (fun c7 => ?_) (fun c7 => ?_)
      · -- to 38
        refine r_ki aX0_itemAt_38 ?_
        exact r_iret hM aX0_itemAt_39 rfl ⟨rfl, by rw [hx, List.drop_of_length_le (by omega)]; rfl⟩
      · omega
    | succ k ih =>
      intro i hk hi hx
      have hlt : i < L.length := by omega
      obtain ⟨e1, e2, e3⟩ := hI.at hlt
      rw [n0] at e1 e2 e3
      obtain ⟨b1, b2, b3⟩ := hW.at hlt
      rw [List.drop_eq_getElem_cons hlt] at hx
      refine r_il aX0_itemAt_2 rfl ?_
      refine r_al aX0_itemAt_3 rfl ?_
      refine r_gI aX0_itemAt_4 hq.1 rfl hn ?_
      refine r_n_ge aX0_itemAt_7 (by omega) (by omega) (fun c7 => ?_) (fun c7 => ?_)
      · omega
      · -- to 10
        refine r_al aX0_itemAt_10 rfl ?_
        refine r_getR aX0_itemAt_11 hq.1 rfl ?_
        refine r_il aX0_itemAt_14 rfl ?_
        refine r_xI aX0_itemAt_15 hq.2.1 (by omega) e1 ?_
        refine r_il aX0_itemAt_16 rfl ?_
        refine r_n_ne aX0_itemAt_17 (by omega) (by omega) (fun c17 => ?_) (fun c17 => ?_)
        · -- to 32
          refine r_in3 aX0_itemAt_32 rfl ?_
          refine r_go aX0_itemAt_35 ?_
          exact ih (i + 1) (by omega) (by omega) (by rw [hx, ixOf, if_neg (fun z => c17 z.1)])
        · -- to 20
          refine r_al aX0_itemAt_20 rfl ?_
          refine r_getR aX0_itemAt_21 hq.1 rfl ?_
          refine r_il aX0_itemAt_24 rfl ?_
          refine r_xI aX0_itemAt_25 hq.2.2.1 (by omega) e2 ?_
          refine r_il aX0_itemAt_26 rfl ?_
          refine r_n_ne aX0_itemAt_27 (by omega) (by omega) (fun c27 => ?_) (fun c27 => ?_)
          · -- to 32
            refine r_in3 aX0_itemAt_32 rfl ?_
            refine r_go aX0_itemAt_35 ?_
            exact ih (i + 1) (by omega) (by omega) (by rw [hx, ixOf, if_neg (fun z => c27 z.2)])
          · -- to 30
            refine r_il aX0_itemAt_30 rfl ?_
            exact r_iret hM aX0_itemAt_31 rfl ⟨rfl, by rw [hx, ixOf, if_pos ⟨c17, c27⟩]; rfl⟩
  refine r_ki aX0_itemAt_0 ?_
  refine r_is3 aX0_itemAt_1 rfl ?_
  exact loop _ 0 rfl (by omega) rfl
theorem K_X0_endedIn {x : Int32} (hq : IsL q) (hF : Nums h (q + 4) 0 8 F) : Con ad mX0_endedIn [.ref (ad q), .int x] h (qL fun y h' => h' = h ∧ y = lN (fSum F x 8)) := by
  refine Con.mk vX0_endedIn.1 vX0_endedIn.2.2.2.2 [some (.ref (ad q)), some (.int x), none, none, none] rfl (Nat.le_of_ble_eq_true rfl) (fun Y hM => ?_)
  have loop : ∀ (k i : Nat), 8 - i = k → i ≤ 8 → G Y ad mX0_endedIn 5 [some (.ref (ad q)), some (.int x), some (.long (lN (fSum F x i))), none, some (.int (nI i))] [] h := by
    intro k
    induction k with
    | zero =>
      intro i hk hi
      have h8 : i = 8 := by omega
      subst h8
      refine r_il aX0_endedIn_5 rfl ?_
      refine r_ki aX0_endedIn_7 ?_
      refine r_n_gt aX0_endedIn_9 (by omega) (by omega) (fun c9 => ?_) (fun c9 => ?_)
      · -- to 38
        refine r_ll aX0_endedIn_38 rfl ?_
        exact r_lret hM aX0_endedIn_39 rfl ⟨rfl, rfl⟩
      · omega
    | succ k ih =>
      intro i hk hi
      have hv : h.2 (q + 4) i = lN (F i) := by have := hF i (by omega); rwa [n0] at this
      refine r_il aX0_endedIn_5 rfl ?_
      refine r_ki aX0_endedIn_7 ?_
      refine r_n_gt aX0_endedIn_9 (by omega) (by omega) (fun c9 => ?_) (fun c9 => ?_)
      · omega
      · -- to 12
        refine r_il aX0_endedIn_12 rfl ?_
        refine r_il aX0_endedIn_13 rfl ?_
        refine r_ishr aX0_endedIn_15 ?_
        refine r_ki aX0_endedIn_16 ?_
        refine r_iand aX0_endedIn_17 ?_
        refine r_ki aX0_endedIn_18 ?_
        refine r_c_ne aX0_endedIn_19 (fun c19 => ?_) (fun c19 => ?_)
        · -- to 32
          refine r_in4 aX0_endedIn_32 rfl ?_
          refine r_go aX0_endedIn_35 ?_
          have := ih (i + 1) (by omega) (by omega)
          rw [fSum, bitAt_f c19] at this
          exact this
        · -- to 22
          refine r_ll aX0_endedIn_22 rfl ?_
          refine r_al aX0_endedIn_23 rfl ?_
          refine r_getR aX0_endedIn_24 hq.1 rfl ?_
          refine r_il aX0_endedIn_27 rfl ?_
          refine r_xL aX0_endedIn_29 hq.2.2.2.2.1 (by omega) hv ?_
          refine r_laddN aX0_endedIn_30 ?_
          refine r_ls2 aX0_endedIn_31 rfl ?_
          refine r_in4 aX0_endedIn_32 rfl ?_
          refine r_go aX0_endedIn_35 ?_
          have := ih (i + 1) (by omega) (by omega)
          rw [fSum, bitAt_t c19] at this
          exact this
  refine r_kl aX0_endedIn_0 ?_
  refine r_ls2 aX0_endedIn_1 rfl ?_
  refine r_ki aX0_endedIn_2 ?_
  refine r_is4 aX0_endedIn_3 rfl ?_
  exact loop _ 0 rfl (by omega)
end LISTING

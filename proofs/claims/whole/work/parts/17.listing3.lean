def repU (Sh : List Itm) (j : Nat) : Nat → Bool
  | 0 => false
  | i + 1 => repU Sh j i || decide ((gi Sh i).1 = (gi Sh j).1 ∧ (gi Sh i).2.1 = (gi Sh j).2.1)
theorem repU_t {Sh : List Itm} {j i : Nat} (h1 : (gi Sh i).1 = (gi Sh j).1) (h2 : (gi Sh i).2.1 = (gi Sh j).2.1) : ∀ k, i < k → repU Sh j k = true
  | 0, h => by omega
  | k + 1, h => by
    unfold repU
    by_cases e : i = k
    · subst e; simp [h1, h2]
    · rw [repU_t h1 h2 k (by omega)]; rfl
theorem repU_s {Sh : List Itm} {j i : Nat} (h0 : repU Sh j i = false) (h : ¬ ((gi Sh i).1 = (gi Sh j).1 ∧ (gi Sh i).2.1 = (gi Sh j).2.1)) : repU Sh j (i + 1) = false := by
  unfold repU
  rw [h0, decide_eq_false h]; rfl
/-- how many items more -/
def cn (L Sh : List Itm) : Nat → Nat
  | 0 => 0
  | j + 1 => cn L Sh j + if ixOf (gi Sh j).1 (gi Sh j).2.1 L 0 = none ∧ repU Sh j j = false then 1 else 0
def cnt (jn : Bool) (L Sh : List Itm) : Nat := if jn then cn L Sh Sh.length else Sh.length
theorem cn_le (L Sh : List Itm) : ∀ j, cn L Sh j ≤ j
  | 0 => Nat.le_refl _
  | j + 1 => by have := cn_le L Sh j; unfold cn; split <;> omega
def ixJ (jn : Bool) (L : List Itm) (p : Itm) : Option Nat := if jn then ixOf p.1 p.2.1 L 0 else none
def adS (jn : Bool) (L : List Itm) (p : Itm) : List Itm := match ixJ jn L p with
  | some i => L.set i ((gi L i).1, (gi L i).2.1, (gi L i).2.2 + p.2.2)
  | none => L ++ [p]
def pu (jn : Bool) (L Sh : List Itm) : List Itm := Sh.foldl (adS jn) L
theorem adS_len (jn : Bool) (L : List Itm) (p : Itm) : L.length ≤ (adS jn L p).length := by
  unfold adS
  split <;> simp
theorem pu_len (jn : Bool) : ∀ (Sh L : List Itm), L.length ≤ (pu jn L Sh).length
  | [], L => Nat.le_refl _
  | p :: r, L => Nat.le_trans (adS_len jn L p) (pu_len jn r (adS jn L p))
theorem ixOf_lt (s d : Nat) : ∀ (L : List Itm) (o i : Nat), ixOf s d L o = some i → o ≤ i ∧ i < o + L.length ∧ (gi L (i - o)).1 = s ∧ (gi L (i - o)).2.1 = d
  | [], o, i, h => by simp [ixOf] at h
  | p :: r, o, i, h => by
    unfold ixOf at h
    by_cases e : p.1 = s ∧ p.2.1 = d
    · rw [if_pos e] at h
      cases h
      refine ⟨Nat.le_refl _, by simp, ?_⟩
      rw [Nat.sub_self]
      exact e
    · rw [if_neg e] at h
      obtain ⟨h1, h2, h3⟩ := ixOf_lt s d r (o + 1) i h
      refine ⟨by omega, by simp; omega, ?_⟩
      rw [show i - o = (i - (o + 1)) + 1 by omega]
      exact h3
theorem ixJ_lt {jn : Bool} {L : List Itm} {p : Itm} {i : Nat} (h : ixJ jn L p = some i) : i < L.length ∧ (gi L i).1 = p.1 ∧ (gi L i).2.1 = p.2.1 := by
  unfold ixJ at h
  cases jn with
  | false => cases h
  | true =>
    obtain ⟨-, h1, h2⟩ := ixOf_lt p.1 p.2.1 L 0 i h
    exact ⟨by omega, h2⟩
theorem uSum_set (m : Nat) : ∀ (L : List Itm) (k : Nat), k < L.length → uSum (L.set k ((gi L k).1, (gi L k).2.1, (gi L k).2.2 + m)) = uSum L + m
  | [], k, hk => by simp at hk
  | p :: L, 0, hk => by
    simp only [uSum, List.set_cons_zero, List.map_cons, List.sum_cons, gi, List.getD_cons_zero]
    omega
  | p :: L, k + 1, hk => by
    have ih := uSum_set m L k (by simpa using hk)
    simp only [uSum, List.map_cons, List.sum_cons, List.set_cons_succ, gi, List.getD_cons_succ] at ih ⊢
    omega
theorem adS_sum (jn : Bool) (L : List Itm) (p : Itm) : uSum (adS jn L p) = uSum L + p.2.2 := by
  unfold adS
  split
  · next i hi => exact uSum_set _ L i (ixJ_lt hi).1
  · rw [uSum_app]; simp [uSum]
/-- items in order: how many, where, how deep, how much together -/
def IX (L : List Itm) : Prop := L.length ≤ 60 ∧ (∀ p ∈ L, p.1 < 20 ∧ p.2.1 ≤ 40) ∧ uSum L ≤ 2 ^ 60
theorem uSum_mem {L : List Itm} {p : Itm} (hp : p ∈ L) : p.2.2 ≤ uSum L := by
  induction L with
  | nil => simp at hp
  | cons x r ih =>
    simp only [uSum, List.map_cons, List.sum_cons] at ih ⊢
    rcases List.mem_cons.mp hp with rfl | hp
    · omega
    · have := ih hp; omega
theorem IX.iw {L : List Itm} (H : IX L) : IW L := ⟨H.1, fun p hp => ⟨(H.2.1 p hp).1, (H.2.1 p hp).2, Nat.le_trans (uSum_mem hp) H.2.2⟩⟩
theorem adS_mem {jn : Bool} {L : List Itm} {p : Itm} (hL : ∀ x ∈ L, x.1 < 20 ∧ x.2.1 ≤ 40) (hp : p.1 < 20 ∧ p.2.1 ≤ 40) : ∀ x ∈ adS jn L p, x.1 < 20 ∧ x.2.1 ≤ 40 := by
  unfold adS
  split
  · next i hi =>
    intro x hx
    obtain ⟨h1, h2, h3⟩ := ixJ_lt hi
    rcases List.mem_or_eq_of_mem_set hx with z | z
    · exact hL x z
    · rw [z]; dsimp only; rw [h2, h3]; exact hp
  · intro x hx
    rcases List.mem_append.mp hx with z | z
    · exact hL x z
    · rw [List.mem_singleton.mp z]; exact hp
section LISTING3
variable {ad : Nat → Nat} {h : Mem} {q : Nat} {L Sh : List Itm} {F R : Nat → Nat} {jn : Bool}
theorem K_X1_isRepeated {j : Nat} (hI : Items h 52 53 54 0 Sh) (hS : ∀ p ∈ Sh, p.1 < 20 ∧ p.2.1 ≤ 40) (hl : Sh.length ≤ 32) (hj : j < Sh.length) : Con ad mX1_isRepeated [.ref (ad 51), .int (nI j)] h (qZ fun b h' => h' = h ∧ b = repU Sh j j) := by
  obtain ⟨f1, f2, -⟩ := hI.gi hj
  rw [n0] at f1 f2
  have bj : (gi Sh j).1 < 20 ∧ (gi Sh j).2.1 ≤ 40 := by rw [gi_eq hj]; exact hS _ (List.getElem_mem hj)
  refine Con.mk vX1_isRepeated.1 vX1_isRepeated.2.2.2.2 [some (.ref (ad 51)), some (.int (nI j)), none] rfl (Nat.le_of_ble_eq_true rfl) (fun Y hM => ?_)
  have loop : ∀ (k i : Nat), j - i = k → i ≤ j → repU Sh j i = false → G Y ad mX1_isRepeated 2 [some (.ref (ad 51)), some (.int (nI j)), some (.int (nI i))] [] h := by
    intro k
    induction k with
    | zero =>
      intro i hk hi hx
      have e : i = j := by omega
      subst e
      refine r_il aX1_isRepeated_2 rfl ?_
      refine r_il aX1_isRepeated_3 rfl ?_
      refine r_n_ge aX1_isRepeated_4 (by omega) (by omega) (fun c4 => ?_) (fun c4 => ?_)
      · -- to 45
        refine r_ki aX1_isRepeated_45 ?_
        exact r_zF hM aX1_isRepeated_46 rfl ⟨rfl, hx.symm⟩
      · omega
    | succ k ih =>
      intro i hk hi hx
      have hil : i < Sh.length := by omega
      obtain ⟨e1, e2, -⟩ := hI.gi hil
      rw [n0] at e1 e2
      have bi : (gi Sh i).1 < 20 ∧ (gi Sh i).2.1 ≤ 40 := by rw [gi_eq hil]; exact hS _ (List.getElem_mem hil)
      refine r_il aX1_isRepeated_2 rfl ?_
      refine r_il aX1_isRepeated_3 rfl ?_
      refine r_n_ge aX1_isRepeated_4 (by omega) (by omega) (fun c4 => ?_) (fun c4 => ?_)
      · omega
      · -- to 7
        refine r_al aX1_isRepeated_7 rfl ?_
        refine r_getR aX1_isRepeated_8 rfl rfl ?_
        refine r_il aX1_isRepeated_11 rfl ?_
        refine r_xI aX1_isRepeated_12 rfl (by omega) e1 ?_
        refine r_al aX1_isRepeated_13 rfl ?_
        refine r_getR aX1_isRepeated_14 rfl rfl ?_
        refine r_il aX1_isRepeated_17 rfl ?_
        refine r_xI aX1_isRepeated_18 rfl (by omega) f1 ?_
        refine r_n_ne aX1_isRepeated_19 (by omega) (by omega) (fun c19 => ?_) (fun c19 => ?_)
        · refine r_in2 aX1_isRepeated_39 rfl ?_
          refine r_go aX1_isRepeated_42 ?_
          exact ih (i + 1) (by omega) (by omega) (repU_s hx (fun z => c19 z.1))
        refine r_al aX1_isRepeated_22 rfl ?_
        refine r_getR aX1_isRepeated_23 rfl rfl ?_
        refine r_il aX1_isRepeated_26 rfl ?_
        refine r_xI aX1_isRepeated_27 rfl (by omega) e2 ?_
        refine r_al aX1_isRepeated_28 rfl ?_
        refine r_getR aX1_isRepeated_29 rfl rfl ?_
        refine r_il aX1_isRepeated_32 rfl ?_
        refine r_xI aX1_isRepeated_33 rfl (by omega) f2 ?_
        refine r_n_ne aX1_isRepeated_34 (by omega) (by omega) (fun c34 => ?_) (fun c34 => ?_)
        · refine r_in2 aX1_isRepeated_39 rfl ?_
          refine r_go aX1_isRepeated_42 ?_
          exact ih (i + 1) (by omega) (by omega) (repU_s hx (fun z => c34 z.2))
        · refine r_ki aX1_isRepeated_37 ?_
          exact r_zT hM aX1_isRepeated_38 rfl ⟨rfl, (repU_t c19 c34 j (by omega)).symm⟩
  refine r_ki aX1_isRepeated_0 ?_
  refine r_is2 aX1_isRepeated_1 rfl ?_
  exact loop _ 0 rfl (by omega) rfl
theorem K_X0_countNew (hq : IsL q) (hW : IW L) (hn : h.1 q 2 = nI L.length) (hI : Items h (q + 1) (q + 2) (q + 3) 0 L) (hs : h.1 51 0 = nI Sh.length) (hJ : Items h 52 53 54 0 Sh) (hS : ∀ p ∈ Sh, p.1 < 20 ∧ p.2.1 ≤ 40) (hl : Sh.length ≤ 32) : Con ad mX0_countNew [.ref (ad q), .ref (ad 51), .int (bI jn)] h (qI fun x h' => h' = h ∧ x = nI (cnt jn L Sh)) := by
  refine Con.mk vX0_countNew.1 vX0_countNew.2.2.2.2 [some (.ref (ad q)), some (.ref (ad 51)), some (.int (bI jn)), none, none] rfl (Nat.le_of_ble_eq_true rfl) (fun Y hM => ?_)
  have loop : ∀ (k j : Nat), Sh.length - j = k → j ≤ Sh.length → jn = true → G Y ad mX0_countNew 14 [some (.ref (ad q)), some (.ref (ad 51)), some (.int (bI jn)), some (.int (nI (cn L Sh j))), some (.int (nI j))] [] h := by
    intro k
    induction k with
    | zero =>
      intro j hk hj hjn
      have e : j = Sh.length := by omega
      subst e
      refine r_il aX0_countNew_14 rfl ?_
      refine r_al aX0_countNew_16 rfl ?_
      refine r_gI aX0_countNew_17 rfl rfl hs ?_
      refine r_n_ge aX0_countNew_20 (by omega) (by omega) (fun c20 => ?_) (fun c20 => ?_)
      · -- to 63
        refine r_il aX0_countNew_63 rfl ?_
        exact r_iret hM aX0_countNew_64 rfl ⟨rfl, by unfold cnt; rw [if_pos hjn]⟩
      · omega
    | succ k ih =>
      intro j hk hj hjn
      have hjl : j < Sh.length := by omega
      have hc := cn_le L Sh j
      obtain ⟨e1, e2, -⟩ := hJ.gi hjl
      rw [n0] at e1 e2
      have bi : (gi Sh j).1 < 20 ∧ (gi Sh j).2.1 ≤ 40 := by rw [gi_eq hjl]; exact hS _ (List.getElem_mem hjl)
      have key := ih (j + 1) (by omega) (by omega) hjn
      rw [cn] at key
      refine r_il aX0_countNew_14 rfl ?_
      refine r_al aX0_countNew_16 rfl ?_
      refine r_gI aX0_countNew_17 rfl rfl hs ?_
      refine r_n_ge aX0_countNew_20 (by omega) (by omega) (fun c20 => ?_) (fun c20 => ?_)
      · omega
      · -- to 23
        refine r_al aX0_countNew_23 rfl ?_
        refine r_al aX0_countNew_24 rfl ?_
        refine r_getR aX0_countNew_25 rfl rfl ?_
        refine r_il aX0_countNew_28 rfl ?_
        refine r_xI aX0_countNew_30 rfl (by omega) e1 ?_
        refine r_al aX0_countNew_31 rfl ?_
        refine r_getR aX0_countNew_32 rfl rfl ?_
        refine r_il aX0_countNew_35 rfl ?_
        refine r_xI aX0_countNew_37 rfl (by omega) e2 ?_
        refine r_VI2 aX0_countNew_38 vX0_itemAt hq.1 (K_X0_itemAt hq hW hn hI bi.1 bi.2) (fun x38 h38 Q38 => ?_)
        rw [Q38.1, Q38.2]
        refine r_ki aX0_countNew_41 ?_
        refine r_c_ne aX0_countNew_42 (fun c42 => ?_) (fun c42 => ?_)
        · -- to 57
          refine r_in4 aX0_countNew_57 rfl ?_
          refine r_go aX0_countNew_60 ?_
          rw [if_neg (fun z => c42 (by rw [z.1]; rfl))] at key
          exact key
        · -- to 45
          refine r_al aX0_countNew_45 rfl ?_
          refine r_il aX0_countNew_46 rfl ?_
          refine r_VZ1 aX0_countNew_48 vX1_isRepeated rfl (K_X1_isRepeated hJ hS hl hjl) (fun x48 h48 Q48 => ?_)
          rw [Q48.1]
          refine r_b_ne aX0_countNew_51 (fun c51 => ?_) (fun c51 => ?_)
          · -- to 57
            refine r_in4 aX0_countNew_57 rfl ?_
            refine r_go aX0_countNew_60 ?_
            rw [if_neg (fun z => by rw [← Q48.2, c51] at z; cases z.2)] at key
            exact key
          · -- to 54
            refine r_in3 aX0_countNew_54 rfl ?_
            refine r_in4 aX0_countNew_57 rfl ?_
            refine r_go aX0_countNew_60 ?_
            rw [if_pos ⟨oI_none c42 (fun n hn => by have := ixOf_lt _ _ _ _ _ hn; have := hW.1; omega), by rw [← Q48.2]; exact c51⟩] at key
            exact key
  refine r_il aX0_countNew_0 rfl ?_
  refine r_b_ne aX0_countNew_1 (fun c1 => ?_) (fun c1 => ?_)
  · -- to 9
    refine r_ki aX0_countNew_9 ?_
    refine r_is3 aX0_countNew_10 rfl ?_
    refine r_ki aX0_countNew_11 ?_
    refine r_is4 aX0_countNew_12 rfl ?_
    exact loop _ 0 rfl (by omega) c1
  · -- to 4
    refine r_al aX0_countNew_4 rfl ?_
    refine r_gI aX0_countNew_5 rfl rfl hs ?_
    exact r_iret hM aX0_countNew_8 rfl ⟨rfl, by unfold cnt; rw [if_neg (by rw [c1]; decide)]⟩
theorem K_X0_putShares (hq : IsL q) (hql : 55 ≤ q) (hL : LR h q L F R) (hX : ∀ p ∈ L, p.1 < 20 ∧ p.2.1 ≤ 40) (hs : h.1 51 0 = nI Sh.length) (hJ : Items h 52 53 54 0 Sh) (hS : ∀ p ∈ Sh, p.1 < 20 ∧ p.2.1 ≤ 40) (hl : Sh.length ≤ 32) (h60 : (pu jn L Sh).length ≤ 60) (hsum : uSum L + uSum Sh ≤ 2 ^ 60) : Con ad mX0_putShares [.ref (ad q), .ref (ad 51), .int (bI jn)] h (qV fun h' => LR h' q (pu jn L Sh) F R ∧ h'.1 q 0 = h.1 q 0 ∧ h'.1 q 1 = h.1 q 1 ∧ Fr (inL q) h h') := by
  refine Con.mk vX0_putShares.1 vX0_putShares.2.2.2.2 [some (.ref (ad q)), some (.ref (ad 51)), some (.int (bI jn)), none, none, none] rfl (Nat.le_of_ble_eq_true rfl) (fun Y hM => ?_)
  have loop : ∀ (k j : Nat) (g : Mem) (C : List Itm), Sh.length - j = k → j ≤ Sh.length → LR g q C F R → pu jn C (Sh.drop j) = pu jn L Sh → (∀ p ∈ C, p.1 < 20 ∧ p.2.1 ≤ 40) → uSum C + uSum (Sh.drop j) ≤ 2 ^ 60 → g.1 q 0 = h.1 q 0 → g.1 q 1 = h.1 q 1 → Fr (inL q) h g → G Y ad mX0_putShares 2 [some (.ref (ad q)), some (.ref (ad 51)), some (.int (bI jn)), some (.int (nI j)), none, none] [] g := by
    intro k
    induction k with
    | zero =>
      intro j g C hk hj hLg hC hXC hsC g0 g1 hF
      have hsg : g.1 51 0 = nI Sh.length := by rw [(hF 51 (fun z => by have := z.1; omega)).1]; exact hs
      refine r_il aX0_putShares_2 rfl ?_
      refine r_al aX0_putShares_3 rfl ?_
      refine r_gI aX0_putShares_4 rfl rfl hsg ?_
      refine r_n_ge aX0_putShares_7 (by omega) (by omega) (fun c7 => ?_) (fun c7 => ?_)
      · -- to 105
        refine r_vret hM aX0_putShares_105 rfl ?_
        rw [List.drop_of_length_le (by omega)] at hC
        rw [← hC]
        exact ⟨hLg, g0, g1, hF⟩
      · omega
    | succ k ih =>
      intro j g C hk hj hLg hC hXC hsC g0 g1 hF
      have hsg : g.1 51 0 = nI Sh.length := by rw [(hF 51 (fun z => by have := z.1; omega)).1]; exact hs
      have hjl : j < Sh.length := by omega
      have hJg : Items g 52 53 54 0 Sh := hJ.cong (fun i _ => by rw [(hF 52 (fun z => by have := z.1; omega)).1]) (fun i _ => by rw [(hF 53 (fun z => by have := z.1; omega)).1]) (fun i _ => by rw [(hF 54 (fun z => by have := z.1; omega)).2])
      obtain ⟨e1, e2, e3⟩ := hJg.gi hjl
      rw [n0] at e1 e2 e3
      have bi : (gi Sh j).1 < 20 ∧ (gi Sh j).2.1 ≤ 40 := by rw [gi_eq hjl]; exact hS _ (List.getElem_mem hjl)
      rw [List.drop_eq_getElem_cons hjl, ← gi_eq hjl] at hC hsC
      generalize gi Sh j = p at e1 e2 e3 bi hC hsC
      have hC' : pu jn (adS jn C p) (Sh.drop (j + 1)) = pu jn L Sh := hC
      have hlen : (adS jn C p).length ≤ 60 := by rw [← hC'] at h60; exact Nat.le_trans (pu_len jn _ _) h60
      have hCl : C.length ≤ 60 := Nat.le_trans (adS_len jn C p) hlen
      have hs2 : uSum (adS jn C p) + uSum (Sh.drop (j + 1)) ≤ 2 ^ 60 := by
        rw [adS_sum]
        simp only [uSum, List.map_cons, List.sum_cons] at hsC ⊢
        omega
      have hIW : IW C := (show IX C from ⟨hCl, hXC, by omega⟩).iw
      have hX2 := adS_mem (jn := jn) hXC bi
      obtain ⟨cn0, cI, cF, cR, cH⟩ := id hLg
      have bp : p.2.2 ≤ 2 ^ 60 := by
        simp only [uSum, List.map_cons, List.sum_cons] at hsC
        omega
      have fresh : ixJ jn C p = none → ∀ (ls : List (Option Value)), ls = [some (.ref (ad q)), some (.ref (ad 51)), some (.int (bI jn)), some (.int (nI j)), some (.int (nI p.1)), some (.int (-1))] → G Y ad mX0_putShares 46 ls [] g := by
        intro hix ls hls
        subst hls
        have ea : adS jn C p = C ++ [p] := by unfold adS; rw [hix]
        rw [ea] at hlen
        rw [List.length_append, List.length_singleton] at hlen
        refine r_al aX0_putShares_46 rfl ?_
        refine r_il aX0_putShares_47 rfl ?_
        refine r_al aX0_putShares_49 rfl ?_
        refine r_getR aX0_putShares_50 rfl rfl ?_
        refine r_il aX0_putShares_53 rfl ?_
        refine r_xI aX0_putShares_54 rfl (by omega) e2 ?_
        refine r_al aX0_putShares_55 rfl ?_
        refine r_getR aX0_putShares_56 rfl rfl ?_
        refine r_il aX0_putShares_59 rfl ?_
        refine r_xL aX0_putShares_60 rfl (by omega) e3 ?_
        refine r_VV3 aX0_putShares_61 vX0_addItem hq.1 (K_X0_addItem hq (by omega) bi.1 hLg) (fun h61 Q61 => ?_)
        refine r_go aX0_putShares_64 ?_
        refine r_in3 aX0_putShares_99 rfl ?_
        refine r_go aX0_putShares_102 ?_
        obtain ⟨q1, q2, q3, q4⟩ := Q61
        refine r_f4 (r_f5 ?_)
        refine ih (j + 1) h61 (adS jn C p) (by omega) (by omega) (by rw [ea]; exact q1) hC' hX2 hs2 (q2.trans g0) (q3.trans g1) (hF.tr q4)
      have joined : ∀ i, ixJ jn C p = some i → ∀ (ls : List (Option Value)), ls = [some (.ref (ad q)), some (.ref (ad 51)), some (.int (bI jn)), some (.int (nI j)), some (.int (nI p.1)), some (.int (nI i))] → G Y ad mX0_putShares 67 ls [] g := by
        intro i hix ls hls
        subst hls
        obtain ⟨i1, i2, i3⟩ := ixJ_lt hix
        have ea : adS jn C p = C.set i ((gi C i).1, (gi C i).2.1, (gi C i).2.2 + p.2.2) := by unfold adS; rw [hix]
        obtain ⟨u1, u2, u3⟩ := cI.gi i1
        rw [n0] at u1 u2 u3
        have hw : g.2 (q + 6) p.1 = lN (R p.1 + opAt C p.1) := by have := cH p.1 bi.1; rwa [n0] at this
        have e3' : ∀ x y, (sl g (q + 3) x y).2 54 j = lN p.2.2 := fun x y => by rw [sl_2, if_neg (by omega)]; exact e3
        refine r_al aX0_putShares_67 rfl ?_
        refine r_getR aX0_putShares_68 hq.1 rfl ?_
        refine r_il aX0_putShares_71 rfl ?_
        refine r_dup2 aX0_putShares_73 rfl rfl ?_
        refine r_xL aX0_putShares_74 hq.2.2.2.1 (by omega) u3 ?_
        refine r_al aX0_putShares_75 rfl ?_
        refine r_getR aX0_putShares_76 rfl rfl ?_
        refine r_il aX0_putShares_79 rfl ?_
        refine r_xL aX0_putShares_80 rfl (by omega) e3 ?_
        refine r_laddN aX0_putShares_81 ?_
        refine r_last aX0_putShares_82 hq.2.2.2.1 (by omega) ?_
        refine r_al aX0_putShares_83 rfl ?_
        refine r_getR aX0_putShares_84 hq.1 rfl ?_
        refine r_il aX0_putShares_87 rfl ?_
        refine r_dup2 aX0_putShares_89 rfl rfl ?_
        refine r_xL aX0_putShares_90 hq.2.2.2.2.2.2 (by omega) (Eq.trans (by simp [si_1, si_2, sl_1, sl_2, sri_1, sri_2, srl_1, srl_2]) hw) ?_
        refine r_al aX0_putShares_91 rfl ?_
        refine r_getR aX0_putShares_92 rfl rfl ?_
        refine r_il aX0_putShares_95 rfl ?_
        refine r_xL aX0_putShares_96 rfl (by omega) (e3' _ _) ?_
        refine r_laddN aX0_putShares_97 ?_
        refine r_last aX0_putShares_98 hq.2.2.2.2.2.2 (by omega) ?_
        refine r_in3 aX0_putShares_99 rfl ?_
        refine r_go aX0_putShares_102 ?_
        refine r_f4 (r_f5 ?_)
        refine ih (j + 1) _ (adS jn C p) (by omega) (by omega) ?_ hC' hX2 hs2 ?_ ?_ (hF.tr ((Fr.sl ⟨by omega, by omega⟩).tr (Fr.sl ⟨by omega, by omega⟩)))
        · rw [ea]
          refine ⟨?_, ?_, ?_, ?_, ?_⟩
          · rw [List.length_set]; exact cn0
          · rw [gi_eq i1]
            refine cI.put i1 (fun _ _ => rfl) (fun _ _ => rfl) (fun x hx hne => ?_) ?_
            · rw [n0]; simp [sl_2, hne]
            · simp [sl_2, gi_eq i1]
          · intro x hx; simpa [sl_2] using cF x hx
          · intro x hx; simpa [sl_2] using cR x hx
          · intro x hx
            dsimp only
            rw [gi_eq i1, opAt_set]
            have z := cH x hx
            rw [n0] at z
            by_cases e : x = p.1
            · subst e
              rw [gi_eq i1] at i2
              simp [sl_2, i2]
              congr 1
              omega
            · rw [gi_eq i1] at i2
              have e' : ¬ p.1 = x := fun z => e z.symm
              simp [sl_2, i2, e, e', z]
        · rw [sl_1, sl_1]; exact g0
        · rw [sl_1, sl_1]; exact g1
      refine r_il aX0_putShares_2 rfl ?_
      refine r_al aX0_putShares_3 rfl ?_
      refine r_gI aX0_putShares_4 rfl rfl hsg ?_
      refine r_n_ge aX0_putShares_7 (by omega) (by omega) (fun c7 => ?_) (fun c7 => ?_)
      · omega
      · -- to 10
        refine r_al aX0_putShares_10 rfl ?_
        refine r_getR aX0_putShares_11 rfl rfl ?_
        refine r_il aX0_putShares_14 rfl ?_
        refine r_xI aX0_putShares_15 rfl (by omega) e1 ?_
        refine r_is4 aX0_putShares_16 rfl ?_
        refine r_il aX0_putShares_18 rfl ?_
        refine r_b_eq aX0_putShares_19 (fun c19 => ?_) (fun c19 => ?_)
        · -- to 37
          refine r_ki aX0_putShares_37 ?_
          refine r_is5 aX0_putShares_38 rfl ?_
          refine r_il aX0_putShares_40 rfl ?_
          refine r_ki aX0_putShares_42 ?_
          refine r_c_ne aX0_putShares_43 (fun c43 => absurd rfl c43) (fun c43 => ?_)
          exact fresh (by unfold ixJ; rw [c19]; rfl) _ rfl
        · -- to 22
          refine r_al aX0_putShares_22 rfl ?_
          refine r_il aX0_putShares_23 rfl ?_
          refine r_al aX0_putShares_25 rfl ?_
          refine r_getR aX0_putShares_26 rfl rfl ?_
          refine r_il aX0_putShares_29 rfl ?_
          refine r_xI aX0_putShares_30 rfl (by omega) e2 ?_
          refine r_VI2 aX0_putShares_31 vX0_itemAt hq.1 (K_X0_itemAt hq hIW cn0 cI bi.1 bi.2) (fun x31 h31 Q31 => ?_)
          rw [Q31.1, Q31.2]
          refine r_go aX0_putShares_34 ?_
          refine r_is5 aX0_putShares_38 rfl ?_
          refine r_il aX0_putShares_40 rfl ?_
          refine r_ki aX0_putShares_42 ?_
          refine r_c_ne aX0_putShares_43 (fun c43 => ?_) (fun c43 => ?_)
          · -- to 67
            obtain ⟨i, hi⟩ := oI_some c43
            rw [hi]
            exact joined i (by unfold ixJ; rw [c19]; exact hi) _ rfl
          · -- to 46
            have hi : ixOf p.1 p.2.1 C 0 = none := oI_none c43 (fun n hn => by have := ixOf_lt _ _ _ _ _ hn; omega)
            rw [hi]
            exact fresh (by unfold ixJ; rw [c19]; exact hi) _ rfl
  refine r_ki aX0_putShares_0 ?_
  refine r_is3 aX0_putShares_1 rfl ?_
  exact loop _ 0 h L rfl (by omega) hL rfl hX (by rw [List.drop_zero]; exact hsum) rfl rfl Fr.rf
end LISTING3

section NZ
variable {Y : Env3} {ad : Nat → Nat} {μ : Mth} {pc npc : Nat} {ls : List (Option Value)} {st : List Value} {h : Mem} {a tgt : Nat}
theorem nI_z {a : Nat} (ha : a < 2147483648) : (nI a = 0 ↔ a = 0) ∧ (nI a ≤ 0 ↔ a = 0) ∧ (0 < nI a ↔ 0 < a) := by
  refine ⟨⟨fun q => (nI_eq (a := a) (b := 0) (by omega) (by decide)).mp q, fun q => by rw [q]; rfl⟩, ⟨fun q => ?_, fun q => by rw [q]; decide⟩, ⟨fun q => (nI_ltI (a := 0) (b := a) (by decide) (by omega)).mp q, fun q => (nI_ltI (a := 0) (b := a) (by decide) (by omega)).mpr q⟩⟩
  have := (nI_leI (a := a) (b := 0) (by omega) (by decide)).mp q
  omega
theorem r_nz_eq (e : dZ μ pc .eq npc tgt) (ha : a < 2147483648) (kt : a = 0 → G Y ad μ tgt ls st h) (kf : a ≠ 0 → G Y ad μ npc ls st h) : G Y ad μ pc ls (.int (nI a) :: st) h := r_z_eq e (fun q => kt ((nI_z ha).1.mp q)) (fun q => kf (fun z => q ((nI_z ha).1.mpr z)))
theorem r_nz_ne (e : dZ μ pc .ne npc tgt) (ha : a < 2147483648) (kt : a ≠ 0 → G Y ad μ tgt ls st h) (kf : a = 0 → G Y ad μ npc ls st h) : G Y ad μ pc ls (.int (nI a) :: st) h := r_z_ne e (fun q => kt (fun z => q ((nI_z ha).1.mpr z))) (fun q => kf ((nI_z ha).1.mp q))
theorem r_nz_le (e : dZ μ pc .le npc tgt) (ha : a < 2147483648) (kt : a = 0 → G Y ad μ tgt ls st h) (kf : a ≠ 0 → G Y ad μ npc ls st h) : G Y ad μ pc ls (.int (nI a) :: st) h := r_z_le e (fun q => kt ((nI_z ha).2.1.mp q)) (fun q => kf (fun z => q ((nI_z ha).2.1.mpr z)))
theorem r_nz_gt (e : dZ μ pc .gt npc tgt) (ha : a < 2147483648) (kt : 0 < a → G Y ad μ tgt ls st h) (kf : a = 0 → G Y ad μ npc ls st h) : G Y ad μ pc ls (.int (nI a) :: st) h := r_z_gt e (fun q => kt ((nI_z ha).2.2.mp q)) (fun q => kf (by have : ¬ 0 < a := fun z => q ((nI_z ha).2.2.mpr z); omega))
theorem r_nz_lt (e : dZ μ pc .lt npc tgt) (ha : a < 2147483648) (kt : False → G Y ad μ tgt ls st h) (kf : True → G Y ad μ npc ls st h) : G Y ad μ pc ls (.int (nI a) :: st) h := r_z_lt e (fun q => absurd q (nI_pos (by omega))) (fun _ => kf trivial)
theorem r_nz_ge (e : dZ μ pc .ge npc tgt) (ha : a < 2147483648) (kt : True → G Y ad μ tgt ls st h) (kf : False → G Y ad μ npc ls st h) : G Y ad μ pc ls (.int (nI a) :: st) h := r_z_ge e (fun _ => kt trivial) (fun q => absurd (nI_pos' (by omega)) q)
end NZ
theorem oI_none {o : Option Nat} (h : oI o = -1) (hb : ∀ n, o = some n → n < 2147483648) : o = none := by
  cases o with
  | none => rfl
  | some n =>
    exfalso
    have h1 : nI n = -1 := h
    have h2 := nI_pos (n := n) (hb n rfl)
    rw [h1] at h2
    exact h2 (by decide)
theorem oI_some {o : Option Nat} (h : ¬ oI o = -1) : ∃ n, o = some n := by
  cases o with
  | none => exact absurd rfl h
  | some n => exact ⟨n, rfl⟩
/-! the walk: how many states, their outcomes, their arrows (target, sixteenths), their laws -/
abbrev Wk : Type := Nat × (Nat → Option Nat) × (Nat → List (Nat × Nat)) × (Nat → Option Nat)
def tot (l : List (Nat × Nat)) : Nat := (l.map (fun p => p.2)).sum
def wt (t : Nat) : List (Nat × Nat) → Nat
  | [] => 0
  | p :: r => if p.1 = t then p.2 else wt t r
def aIx (t : Nat) : List (Nat × Nat) → Nat → Option Nat
  | [], _ => none
  | p :: r, o => if p.1 = t then some o else aIx t r (o + 1)
/-- arrows in order -/
def AW (n : Nat) (l : List (Nat × Nat)) : Prop := (∀ p ∈ l, p.1 < n ∧ 1 ≤ p.2) ∧ tot l ≤ 16
theorem AW.len {n : Nat} : ∀ {l : List (Nat × Nat)}, AW n l → l.length ≤ tot l
  | [], _ => Nat.zero_le _
  | p :: r, h => by
    have h1 : AW n r := ⟨fun x hx => h.1 x (List.mem_cons_of_mem _ hx), by have := h.2; simp [tot] at this ⊢; omega⟩
    have h2 := h1.len
    have h3 := (h.1 p List.mem_cons_self).2
    simp [tot] at h2 ⊢
    omega
theorem AW.wt_le {n : Nat} (t : Nat) : ∀ {l : List (Nat × Nat)}, AW n l → wt t l ≤ tot l
  | [], _ => Nat.zero_le _
  | p :: r, h => by
    have h1 : AW n r := ⟨fun x hx => h.1 x (List.mem_cons_of_mem _ hx), by have := h.2; simp [tot] at this ⊢; omega⟩
    have h2 := h1.wt_le t
    simp [tot, wt] at h2 ⊢
    split <;> omega
theorem aIx_wt (t : Nat) : ∀ (l : List (Nat × Nat)) (o i : Nat), aIx t l o = some i → o ≤ i ∧ i < o + l.length ∧ l[i - o]? = some (t, wt t l)
  | [], o, i, h => by simp [aIx] at h
  | p :: r, o, i, h => by
    unfold aIx at h
    by_cases e : p.1 = t
    · rw [if_pos e] at h
      cases h
      refine ⟨Nat.le_refl _, by simp, ?_⟩
      rw [Nat.sub_self, wt, if_pos e, ← e]
      rfl
    · rw [if_neg e] at h
      obtain ⟨h1, h2, h3⟩ := aIx_wt t r (o + 1) i h
      refine ⟨by omega, by simp; omega, ?_⟩
      rw [wt, if_neg e, show i - o = (i - (o + 1)) + 1 by omega, List.getElem?_cons_succ]
      exact h3
theorem aIx_none (t : Nat) : ∀ (l : List (Nat × Nat)) (o : Nat), aIx t l o = none → wt t l = 0 ∧ ∀ p ∈ l, p.1 ≠ t
  | [], o, _ => ⟨rfl, fun p hp => by simp at hp⟩
  | p :: r, o, h => by
    unfold aIx at h
    by_cases e : p.1 = t
    · rw [if_pos e] at h
      cases h
    · rw [if_neg e] at h
      obtain ⟨h1, h2⟩ := aIx_none t r (o + 1) h
      refine ⟨by rw [wt, if_neg e]; exact h1, fun x hx => ?_⟩
      rcases List.mem_cons.mp hx with rfl | hx
      · exact e
      · exact h2 x hx
/-- the class's walk -/
def WR (h : Mem) (w : Wk) : Prop := h.1 1 0 = nI w.1 ∧ (∀ s, s < w.1 → h.1 2 s = oI (w.2.1 s)) ∧ (∀ s, s < w.1 → h.1 3 s = oI (w.2.2.2 s)) ∧ (∀ s, s < 20 → h.1 4 s = nI (tot (w.2.2.1 s))) ∧ (∀ s, s < 20 → h.1 5 s = nI (w.2.2.1 s).length) ∧ (∀ s, s < 20 → ∀ (i : Nat) (p : Nat × Nat), (w.2.2.1 s)[i]? = some p → h.1 (7 + s) i = nI p.1 ∧ h.1 (28 + s) i = nI p.2) ∧ (∀ s, s < 20 → ∀ i, (w.2.2.1 s).length ≤ i → i < 16 → h.1 (28 + s) i = nI 0)
def LawOk (w : Wk) (s t : Nat) : Prop := if t = s then tot (w.2.2.1 s) = 16 ∧ 0 < wt s (w.2.2.1 s) ∧ wt s (w.2.2.1 s) < 16 else tot (w.2.2.1 s) = 16 ∧ tot (w.2.2.1 t) = 16 ∧ 0 < wt t (w.2.2.1 s) ∧ 0 < wt s (w.2.2.1 t) ∧ wt t (w.2.2.1 s) * wt s (w.2.2.1 t) < 256 ∧ wt s (w.2.2.1 s) = 0 ∧ wt t (w.2.2.1 t) = 0
def WW (w : Wk) : Prop := w.1 ≤ 20 ∧ (∀ s, w.1 ≤ s → w.2.2.1 s = []) ∧ (∀ s o, w.2.1 s = some o → o < 8 ∧ w.2.2.1 s = []) ∧ (∀ s, AW w.1 (w.2.2.1 s)) ∧ (∀ s t, s < w.1 → w.2.2.2 s = some t → t < w.1 ∧ LawOk w s t) ∧ (∀ s, ((w.2.2.1 s).map (fun p => p.1)).Nodup)
theorem WW.n {w : Wk} (H : WW w) : w.1 ≤ 20 := H.1
theorem WW.len {w : Wk} (H : WW w) (s : Nat) : (w.2.2.1 s).length ≤ 16 := Nat.le_trans (H.2.2.2.1 s).len (H.2.2.2.1 s).2
theorem WW.wt {w : Wk} (H : WW w) (s t : Nat) : wt t (w.2.2.1 s) ≤ 16 := Nat.le_trans ((H.2.2.2.1 s).wt_le t) (H.2.2.2.1 s).2
theorem WW.tot {w : Wk} (H : WW w) (s : Nat) : tot (w.2.2.1 s) ≤ 16 := (H.2.2.2.1 s).2
section WALK
variable {ad : Nat → Nat} {h : Mem} {w : Wk}
theorem K_X2_has {x : Int32} (hW : WW w) (hR : WR h w) : Con ad mX2_has [.ref (ad 1), .int x] h (qZ fun b h' => h' = h ∧ (b = true ↔ ∃ j, j < w.1 ∧ x = nI j)) := by
  have hn := hR.1
  have hb := hW.n
  refine Con.mk vX2_has.1 vX2_has.2.2.2.2 [some (.ref (ad 1)), some (.int x)] rfl (Nat.le_of_ble_eq_true rfl) (fun Y hM => ?_)
  refine r_il aX2_has_0 rfl ?_
  refine r_z_lt aX2_has_1 (fun c1 => ?_) (fun c1 => ?_)
  · -- to 16
    refine r_ki aX2_has_16 ?_
    exact r_zF hM aX2_has_17 rfl ⟨rfl, ⟨fun z => (by cases z), fun ⟨j, hj, e⟩ => absurd e (nI_neg c1 j (by omega))⟩⟩
  · -- to 4
    refine r_il aX2_has_4 rfl ?_
    refine r_al aX2_has_5 rfl ?_
    refine r_gI aX2_has_6 rfl rfl hn ?_
    refine r_c_ge aX2_has_9 (fun c9 => ?_) (fun c9 => ?_)
    · -- to 16
      refine r_ki aX2_has_16 ?_
      exact r_zF hM aX2_has_17 rfl ⟨rfl, ⟨fun z => (by cases z), fun ⟨j, hj, e⟩ => absurd e (nI_big c9 j hj (by omega))⟩⟩
    · -- to 12
      refine r_ki aX2_has_12 ?_
      refine r_go aX2_has_13 ?_
      exact r_zT hM aX2_has_17 rfl ⟨rfl, ⟨fun _ => nI_split c1 c9 (by omega), fun _ => rfl⟩⟩
theorem K_X2_goesOn {x : Int32} (hW : WW w) (hR : WR h w) : Con ad mX2_goesOn [.ref (ad 1), .int x] h (qZ fun b h' => h' = h ∧ (b = true ↔ ∃ j, j < w.1 ∧ x = nI j ∧ w.2.1 j = none)) := by
  have hb := hW.n
  refine Con.mk vX2_goesOn.1 vX2_goesOn.2.2.2.2 [some (.ref (ad 1)), some (.int x)] rfl (Nat.le_of_ble_eq_true rfl) (fun Y hM => ?_)
  refine r_al aX2_goesOn_0 rfl ?_
  refine r_il aX2_goesOn_1 rfl ?_
  refine r_VZ1 aX2_goesOn_2 vX2_has rfl (K_X2_has hW hR) (fun x2 h2 Q2 => ?_)
  rw [Q2.1]
  refine r_b_eq aX2_goesOn_5 (fun c5 => ?_) (fun c5 => ?_)
  · -- to 22
    refine r_ki aX2_goesOn_22 ?_
    exact r_zF hM aX2_goesOn_23 rfl ⟨rfl, ⟨fun z => (by cases z), fun ⟨j, hj, e, _⟩ => (by have := Q2.2.mpr ⟨j, hj, e⟩; rw [c5] at this; cases this)⟩⟩
  · -- to 8
    obtain ⟨j, hj, rfl⟩ := Q2.2.mp c5
    have e1 := hR.2.1 j hj
    have inj : ∀ i, i < w.1 → nI j = nI i → i = j := fun i hi e => ((nI_eq (by omega) (by omega)).mp e).symm
    refine r_al aX2_goesOn_8 rfl ?_
    refine r_getR aX2_goesOn_9 rfl rfl ?_
    refine r_il aX2_goesOn_12 rfl ?_
    refine r_xI aX2_goesOn_13 rfl (by omega) e1 ?_
    refine r_ki aX2_goesOn_14 ?_
    refine r_c_ne aX2_goesOn_15 (fun c15 => ?_) (fun c15 => ?_)
    · refine r_ki aX2_goesOn_22 ?_
      exact r_zF hM aX2_goesOn_23 rfl ⟨rfl, ⟨fun z => (by cases z), fun ⟨i, hi, e, e2⟩ => (by rw [inj i hi e] at e2; rw [e2] at c15; exact absurd rfl c15)⟩⟩
    · refine r_ki aX2_goesOn_18 ?_
      refine r_go aX2_goesOn_19 ?_
      exact r_zT hM aX2_goesOn_23 rfl ⟨rfl, ⟨fun _ => ⟨j, hj, rfl, oI_none c15 (fun o ho => by have := (hW.2.2.1 j o ho).1; omega)⟩, fun _ => rfl⟩⟩
theorem K_X2_arrowTo {s t : Nat} (hW : WW w) (hR : WR h w) (hs : s < 20) (ht : t < 20) : Con ad mX2_arrowTo [.ref (ad 1), .int (nI s), .int (nI t)] h (qI fun x h' => h' = h ∧ x = oI (aIx t (w.2.2.1 s) 0)) := by
  have hl := hW.len s
  have hn := hR.2.2.2.2.1 s hs
  generalize hA : w.2.2.1 s = A at hl hn ⊢
  refine Con.mk vX2_arrowTo.1 vX2_arrowTo.2.2.2.2 [some (.ref (ad 1)), some (.int (nI s)), some (.int (nI t)), none] rfl (Nat.le_of_ble_eq_true rfl) (fun Y hM => ?_)
  have loop : ∀ (k i : Nat), A.length - i = k → i ≤ A.length → aIx t A 0 = aIx t (A.drop i) i → G Y ad mX2_arrowTo 2 [some (.ref (ad 1)), some (.int (nI s)), some (.int (nI t)), some (.int (nI i))] [] h := by
    intro k
    induction k with
    | zero =>
      intro i hk hi hx
      refine r_il aX2_arrowTo_2 rfl ?_
      refine r_al aX2_arrowTo_3 rfl ?_
      refine r_getR aX2_arrowTo_4 rfl rfl ?_
      refine r_il aX2_arrowTo_7 rfl ?_
      refine r_xI aX2_arrowTo_8 rfl (by omega) hn ?_
      refine r_n_ge aX2_arrowTo_9 (by omega) (by omega) (fun c9 => ?_) (fun c9 => ?_)
      · -- to 32
        refine r_ki aX2_arrowTo_32 ?_
        exact r_iret hM aX2_arrowTo_33 rfl ⟨rfl, by rw [hx, List.drop_of_length_le (by omega)]; rfl⟩
      · omega
    | succ k ih =>
      intro i hk hi hx
      have hlt : i < A.length := by omega
      obtain ⟨e1, e2⟩ := hR.2.2.2.2.2.1 s hs i A[i] (by rw [hA]; exact List.getElem?_eq_getElem hlt)
      have b1 : A[i].1 < w.1 := ((hW.2.2.2.1 s).1 A[i] (by rw [hA]; exact List.getElem_mem hlt)).1
      have hb := hW.n
      rw [List.drop_eq_getElem_cons hlt] at hx
      refine r_il aX2_arrowTo_2 rfl ?_
      refine r_al aX2_arrowTo_3 rfl ?_
      refine r_getR aX2_arrowTo_4 rfl rfl ?_
      refine r_il aX2_arrowTo_7 rfl ?_
      refine r_xI aX2_arrowTo_8 rfl (by omega) hn ?_
      refine r_n_ge aX2_arrowTo_9 (by omega) (by omega) (fun c9 => ?_) (fun c9 => ?_)
      · omega
      · -- to 12
        refine r_al aX2_arrowTo_12 rfl ?_
        refine r_getR aX2_arrowTo_13 rfl rfl ?_
        refine r_il aX2_arrowTo_16 rfl ?_
        refine r_aaldI aX2_arrowTo_17 rfl hs (if_pos hs) ?_
        refine r_il aX2_arrowTo_18 rfl ?_
        refine r_xI aX2_arrowTo_19 (shT _ hs) (by omega) e1 ?_
        refine r_il aX2_arrowTo_20 rfl ?_
        refine r_n_ne aX2_arrowTo_21 (by omega) (by omega) (fun c21 => ?_) (fun c21 => ?_)
        · -- to 26
          refine r_in3 aX2_arrowTo_26 rfl ?_
          refine r_go aX2_arrowTo_29 ?_
          exact ih (i + 1) (by omega) (by omega) (by rw [hx, aIx, if_neg c21])
        · -- to 24
          refine r_il aX2_arrowTo_24 rfl ?_
          exact r_iret hM aX2_arrowTo_25 rfl ⟨rfl, by rw [hx, aIx, if_pos c21]; rfl⟩
  refine r_ki aX2_arrowTo_0 ?_
  refine r_is3 aX2_arrowTo_1 rfl ?_
  exact loop _ 0 rfl (by omega) rfl
theorem K_X2_sixteenthsTo {s t : Nat} (hW : WW w) (hR : WR h w) (hs : s < 20) (ht : t < 20) : Con ad mX2_sixteenthsTo [.ref (ad 1), .int (nI s), .int (nI t)] h (qI fun x h' => h' = h ∧ x = nI (wt t (w.2.2.1 s))) := by
  have hl := hW.len s
  refine Con.mk vX2_sixteenthsTo.1 vX2_sixteenthsTo.2.2.2.2 [some (.ref (ad 1)), some (.int (nI s)), some (.int (nI t)), none] rfl (Nat.le_of_ble_eq_true rfl) (fun Y hM => ?_)
  refine r_al aX2_sixteenthsTo_0 rfl ?_
  refine r_il aX2_sixteenthsTo_1 rfl ?_
  refine r_il aX2_sixteenthsTo_2 rfl ?_
  refine r_VI2 aX2_sixteenthsTo_3 vX2_arrowTo rfl (K_X2_arrowTo hW hR hs ht) (fun x3 h3 Q3 => ?_)
  rw [Q3.1, Q3.2]
  refine r_is3 aX2_sixteenthsTo_6 rfl ?_
  refine r_il aX2_sixteenthsTo_7 rfl ?_
  refine r_ki aX2_sixteenthsTo_8 ?_
  refine r_c_ne aX2_sixteenthsTo_9 (fun c9 => ?_) (fun c9 => ?_)
  · -- to 16
    obtain ⟨i, hi⟩ := oI_some c9
    obtain ⟨-, h1, h2⟩ := aIx_wt t _ 0 i hi
    rw [hi]
    have e2 := (hR.2.2.2.2.2.1 s hs i _ h2).2
    refine r_al aX2_sixteenthsTo_16 rfl ?_
    refine r_getR aX2_sixteenthsTo_17 rfl rfl ?_
    refine r_il aX2_sixteenthsTo_20 rfl ?_
    refine r_aaldI aX2_sixteenthsTo_21 rfl hs (if_pos hs) ?_
    refine r_il aX2_sixteenthsTo_22 (x := nI i) rfl ?_
    refine r_xI aX2_sixteenthsTo_23 (shW _ hs) (by omega) e2 ?_
    exact r_iret hM aX2_sixteenthsTo_24 rfl ⟨rfl, rfl⟩
  · -- to 12
    refine r_ki aX2_sixteenthsTo_12 ?_
    refine r_go aX2_sixteenthsTo_13 ?_
    exact r_iret hM aX2_sixteenthsTo_24 rfl ⟨rfl, by rw [(aIx_none t _ 0 (oI_none c9 (fun n hn => by obtain ⟨-, h1, -⟩ := aIx_wt t _ 0 n hn; omega))).1]⟩
theorem K_X2_isWhole {s : Nat} (hW : WW w) (hR : WR h w) (hs : s < 20) : Con ad mX2_isWhole [.ref (ad 1), .int (nI s)] h (qZ fun b h' => h' = h ∧ b = decide (tot (w.2.2.1 s) = 16)) := by
  have hn := hR.2.2.2.1 s hs
  have hb := hW.tot s
  refine Con.mk vX2_isWhole.1 vX2_isWhole.2.2.2.2 [some (.ref (ad 1)), some (.int (nI s))] rfl (Nat.le_of_ble_eq_true rfl) (fun Y hM => ?_)
  refine r_al aX2_isWhole_0 rfl ?_
  refine r_getR aX2_isWhole_1 rfl rfl ?_
  refine r_il aX2_isWhole_4 rfl ?_
  refine r_xI aX2_isWhole_5 rfl (by omega) hn ?_
  refine r_ki aX2_isWhole_6 ?_
  refine r_n_ne aX2_isWhole_8 (by omega) (by omega) (fun c8 => ?_) (fun c8 => ?_)
  · -- to 15
    refine r_ki aX2_isWhole_15 ?_
    exact r_zF hM aX2_isWhole_16 rfl ⟨rfl, (decide_eq_false c8).symm⟩
  · -- to 11
    refine r_ki aX2_isWhole_11 ?_
    refine r_go aX2_isWhole_12 ?_
    exact r_zT hM aX2_isWhole_16 rfl ⟨rfl, (decide_eq_true c8).symm⟩
theorem K_X2_isLoop {s : Nat} (hW : WW w) (hR : WR h w) (hs : s < 20) : Con ad mX2_isLoop [.ref (ad 1), .int (nI s)] h (qZ fun b h' => h' = h ∧ (b = true ↔ LawOk w s s)) := by
  have hb := hW.wt s s
  unfold LawOk
  rw [if_pos rfl]
  refine Con.mk vX2_isLoop.1 vX2_isLoop.2.2.2.2 [some (.ref (ad 1)), some (.int (nI s)), none] rfl (Nat.le_of_ble_eq_true rfl) (fun Y hM => ?_)
  refine r_al aX2_isLoop_0 rfl ?_
  refine r_il aX2_isLoop_1 rfl ?_
  refine r_il aX2_isLoop_2 rfl ?_
  refine r_VI2 aX2_isLoop_3 vX2_sixteenthsTo rfl (K_X2_sixteenthsTo hW hR hs hs) (fun x3 h3 Q3 => ?_)
  rw [Q3.1, Q3.2]
  refine r_is2 aX2_isLoop_6 rfl ?_
  refine r_al aX2_isLoop_7 rfl ?_
  refine r_il aX2_isLoop_8 rfl ?_
  refine r_VZ1 aX2_isLoop_9 vX2_isWhole rfl (K_X2_isWhole hW hR hs) (fun x9 h9 Q9 => ?_)
  rw [Q9.1]
  have Q := Q9.2
  refine r_b_eq aX2_isLoop_12 (fun c12 => ?_) (fun c12 => ?_)
  · -- to 29
    refine r_ki aX2_isLoop_29 ?_
    exact r_zF hM aX2_isLoop_30 rfl ⟨rfl, by rw [c12] at Q; have := of_decide_eq_false Q.symm; simp [this]⟩
  · -- to 15
    refine r_il aX2_isLoop_15 rfl ?_
    refine r_nz_le aX2_isLoop_16 (by omega) (fun c16 => ?_) (fun c16 => ?_)
    · -- to 29
      refine r_ki aX2_isLoop_29 ?_
      exact r_zF hM aX2_isLoop_30 rfl ⟨rfl, by simp [c16]⟩
    · -- to 19
      refine r_il aX2_isLoop_19 rfl ?_
      refine r_ki aX2_isLoop_20 ?_
      refine r_n_ge aX2_isLoop_22 (by omega) (by omega) (fun c22 => ?_) (fun c22 => ?_)
      · -- to 29
        refine r_ki aX2_isLoop_29 ?_
        exact r_zF hM aX2_isLoop_30 rfl ⟨rfl, ⟨fun z => (by cases z), fun z => by omega⟩⟩
      · -- to 25
        refine r_ki aX2_isLoop_25 ?_
        refine r_go aX2_isLoop_26 ?_
        exact r_zT hM aX2_isLoop_30 rfl ⟨rfl, ⟨fun _ => ⟨by rw [c12] at Q; exact of_decide_eq_true Q.symm, by omega, by omega⟩, fun _ => rfl⟩⟩
theorem K_X2_isRing {s t : Nat} (hW : WW w) (hR : WR h w) (hs : s < 20) (ht : t < 20) (hne : t ≠ s) : Con ad mX2_isRing [.ref (ad 1), .int (nI s), .int (nI t)] h (qZ fun b h' => h' = h ∧ (b = true ↔ LawOk w s t)) := by
  have hb1 := hW.wt s t
  have hb2 := hW.wt t s
  have hb3 := hW.wt s s
  have hb4 := hW.wt t t
  have hm : wt t (w.2.2.1 s) * wt s (w.2.2.1 t) ≤ 16 * 16 := Nat.mul_le_mul hb1 hb2
  unfold LawOk
  rw [if_neg hne]
  refine Con.mk vX2_isRing.1 vX2_isRing.2.2.2.2 [some (.ref (ad 1)), some (.int (nI s)), some (.int (nI t)), none, none] rfl (Nat.le_of_ble_eq_true rfl) (fun Y hM => ?_)
  refine r_al aX2_isRing_0 rfl ?_
  refine r_il aX2_isRing_1 rfl ?_
  refine r_il aX2_isRing_2 rfl ?_
  refine r_VI2 aX2_isRing_3 vX2_sixteenthsTo rfl (K_X2_sixteenthsTo hW hR hs ht) (fun x3 h3 Q3 => ?_)
  rw [Q3.1, Q3.2]
  refine r_is3 aX2_isRing_6 rfl ?_
  refine r_al aX2_isRing_7 rfl ?_
  refine r_il aX2_isRing_8 rfl ?_
  refine r_il aX2_isRing_9 rfl ?_
  refine r_VI2 aX2_isRing_10 vX2_sixteenthsTo rfl (K_X2_sixteenthsTo hW hR ht hs) (fun x10 h10 Q10 => ?_)
  rw [Q10.1, Q10.2]
  refine r_is4 aX2_isRing_13 rfl ?_
  refine r_al aX2_isRing_15 rfl ?_
  refine r_il aX2_isRing_16 rfl ?_
  refine r_VZ1 aX2_isRing_17 vX2_isWhole rfl (K_X2_isWhole hW hR hs) (fun x17 h17 Q17 => ?_)
  rw [Q17.1]
  refine r_b_eq aX2_isRing_20 (fun c20 => ?_) (fun c20 => ?_)
  · -- to 72
    refine r_ki aX2_isRing_72 ?_
    exact r_zF hM aX2_isRing_73 rfl ⟨rfl, by have := of_decide_eq_false (Q17.2.symm.trans c20); simp [this]⟩
  · -- to 23
    refine r_al aX2_isRing_23 rfl ?_
    refine r_il aX2_isRing_24 rfl ?_
    refine r_VZ1 aX2_isRing_25 vX2_isWhole rfl (K_X2_isWhole hW hR ht) (fun x25 h25 Q25 => ?_)
    rw [Q25.1]
    refine r_b_eq aX2_isRing_28 (fun c28 => ?_) (fun c28 => ?_)
    · -- to 72
      refine r_ki aX2_isRing_72 ?_
      exact r_zF hM aX2_isRing_73 rfl ⟨rfl, by have := of_decide_eq_false (Q25.2.symm.trans c28); simp [this]⟩
    · -- to 31
      refine r_il aX2_isRing_31 rfl ?_
      refine r_nz_le aX2_isRing_32 (by omega) (fun c32 => ?_) (fun c32 => ?_)
      · -- to 72
        refine r_ki aX2_isRing_72 ?_
        exact r_zF hM aX2_isRing_73 rfl ⟨rfl, by simp [c32]⟩
      · -- to 35
        refine r_il aX2_isRing_35 rfl ?_
        refine r_nz_le aX2_isRing_37 (by omega) (fun c37 => ?_) (fun c37 => ?_)
        · -- to 72
          refine r_ki aX2_isRing_72 ?_
          exact r_zF hM aX2_isRing_73 rfl ⟨rfl, by simp [c37]⟩
        · -- to 40
          refine r_il aX2_isRing_40 rfl ?_
          refine r_il aX2_isRing_41 rfl ?_
          refine r_imulN aX2_isRing_43 ?_
          refine r_ki aX2_isRing_44 ?_
          refine r_n_ge aX2_isRing_47 (by omega) (by omega) (fun c47 => ?_) (fun c47 => ?_)
          · -- to 72
            refine r_ki aX2_isRing_72 ?_
            exact r_zF hM aX2_isRing_73 rfl ⟨rfl, ⟨fun z => (by cases z), fun z => by omega⟩⟩
          · -- to 50
            refine r_al aX2_isRing_50 rfl ?_
            refine r_il aX2_isRing_51 rfl ?_
            refine r_il aX2_isRing_52 rfl ?_
            refine r_VI2 aX2_isRing_53 vX2_sixteenthsTo rfl (K_X2_sixteenthsTo hW hR hs hs) (fun x53 h53 Q53 => ?_)
            rw [Q53.1, Q53.2]
            refine r_nz_ne aX2_isRing_56 (by omega) (fun c56 => ?_) (fun c56 => ?_)
            · -- to 72
              refine r_ki aX2_isRing_72 ?_
              exact r_zF hM aX2_isRing_73 rfl ⟨rfl, ⟨fun z => (by cases z), fun z => by omega⟩⟩
            · -- to 59
              refine r_al aX2_isRing_59 rfl ?_
              refine r_il aX2_isRing_60 rfl ?_
              refine r_il aX2_isRing_61 rfl ?_
              refine r_VI2 aX2_isRing_62 vX2_sixteenthsTo rfl (K_X2_sixteenthsTo hW hR ht ht) (fun x62 h62 Q62 => ?_)
              rw [Q62.1, Q62.2]
              refine r_nz_ne aX2_isRing_65 (by omega) (fun c65 => ?_) (fun c65 => ?_)
              · -- to 72
                refine r_ki aX2_isRing_72 ?_
                exact r_zF hM aX2_isRing_73 rfl ⟨rfl, ⟨fun z => (by cases z), fun z => by omega⟩⟩
              · -- to 68
                refine r_ki aX2_isRing_68 ?_
                refine r_go aX2_isRing_69 ?_
                exact r_zT hM aX2_isRing_73 rfl ⟨rfl, ⟨fun _ => ⟨of_decide_eq_true (Q17.2.symm.trans c20), of_decide_eq_true (Q25.2.symm.trans c28), by omega, by omega, by omega, by omega, by omega⟩, fun _ => rfl⟩⟩
theorem K_X2_isProved {s t : Nat} (hW : WW w) (hR : WR h w) (hs : s < 20) (ht : t < 20) : Con ad mX2_isProved [.ref (ad 1), .int (nI s), .int (nI t)] h (qZ fun b h' => h' = h ∧ (b = true ↔ LawOk w s t)) := by
  refine Con.mk vX2_isProved.1 vX2_isProved.2.2.2.2 [some (.ref (ad 1)), some (.int (nI s)), some (.int (nI t))] rfl (Nat.le_of_ble_eq_true rfl) (fun Y hM => ?_)
  refine r_il aX2_isProved_0 rfl ?_
  refine r_il aX2_isProved_1 rfl ?_
  refine r_n_ne aX2_isProved_2 (by omega) (by omega) (fun c2 => ?_) (fun c2 => ?_)
  · -- to 13
    refine r_al aX2_isProved_13 rfl ?_
    refine r_il aX2_isProved_14 rfl ?_
    refine r_il aX2_isProved_15 rfl ?_
    refine r_VZ2 aX2_isProved_16 vX2_isRing rfl (K_X2_isRing hW hR hs ht (fun z => c2 z.symm)) (fun x16 h16 Q16 => ?_)
    rw [Q16.1]
    exact r_zret hM aX2_isProved_19 rfl ⟨rfl, Q16.2⟩
  · -- to 5
    refine r_al aX2_isProved_5 rfl ?_
    refine r_il aX2_isProved_6 rfl ?_
    refine r_VZ1 aX2_isProved_7 vX2_isLoop rfl (K_X2_isLoop hW hR hs) (fun x7 h7 Q7 => ?_)
    rw [Q7.1]
    refine r_go aX2_isProved_10 ?_
    exact r_zret hM aX2_isProved_19 rfl ⟨rfl, by rw [← c2]; exact Q7.2⟩
end WALK

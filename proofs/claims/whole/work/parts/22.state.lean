/-! what each call answers, and what is then -/
def inN (x : Int32) (n : Nat) : Option Nat := if ¬ x < 0 ∧ ¬ nI n ≤ x then some x.toNatClampNeg else none
theorem inN_s {x : Int32} {n j : Nat} (hn : n < 2147483648) : inN x n = some j ↔ j < n ∧ x = nI j := by
  unfold inN
  constructor
  · intro h
    split at h
    · next c =>
      obtain ⟨i, hi, e⟩ := nI_split c.1 c.2 hn
      rw [e, nI_clamp (by omega)] at h
      cases h
      exact ⟨hi, e⟩
    · cases h
  · rintro ⟨h1, rfl⟩
    rw [if_pos ⟨nI_pos (by omega), nI_ge h1 (by omega)⟩, nI_clamp (by omega)]
theorem inN_n {x : Int32} {n : Nat} (hn : n < 2147483648) : inN x n = none ↔ ¬ ∃ j, j < n ∧ x = nI j := by
  constructor
  · rintro h ⟨j, hj⟩
    rw [(inN_s hn).mpr hj] at h
    cases h
  · intro h
    cases hx : inN x n with
    | none => rfl
    | some j => exact absurd ⟨j, (inN_s hn).mp hx⟩ h
abbrev LL : Type := Nat × Nat × Lst
/-- walk, order, joined, the listing, the saves -/
abbrev Sta : Type := Wk × Nat × Bool × Option LL × (Nat → Option LL)
def SI (σ : Sta) : Prop := WW σ.1 ∧ σ.2.1 ≤ 2 ∧ (∀ l, σ.2.2.2.1 = some l → l.1 < σ.1.1 ∧ LI σ.1 l.2.2) ∧ ∀ k l, σ.2.2.2.2 k = some l → l.1 < σ.1.1 ∧ LI σ.1 l.2.2
def noL : Nat → Option LL := fun _ => none
def noW : Nat → Option Nat := fun _ => none
/-- the walk is another: listing, saves and laws go -/
def nwS (σ : Sta) (n : Nat) (out : Nat → Option Nat) (ar : Nat → List (Nat × Nat)) : Sta := ((n, out, ar, noW), σ.2.1, σ.2.2.1, none, noL)
def fState (σ : Sta) (x : Int32) : Int32 × Sta := if x ≠ -1 ∧ inN x 8 = none then (-1, σ) else if 20 ≤ σ.1.1 then (-3, σ) else (nI σ.1.1, nwS σ (σ.1.1 + 1) (va_up σ.1.2.1 σ.1.1 (inN x 8)) σ.1.2.2.1)
def addA (t k : Nat) : List (Nat × Nat) → List (Nat × Nat)
  | [] => [(t, k)]
  | p :: r => if p.1 = t then (p.1, p.2 + k) :: r else p :: addA t k r
def fArrow (σ : Sta) (x y z : Int32) : Int32 × Sta := match inN x σ.1.1, inN y σ.1.1, inN z 17 with
  | some s, some t, some k => if σ.1.2.1 s ≠ none ∨ k = 0 then (-1, σ) else if 16 < tot (σ.1.2.2.1 s) + k then (-3, σ) else (nI (tot (σ.1.2.2.1 s) + k), nwS σ σ.1.1 σ.1.2.1 (va_up σ.1.2.2.1 s (addA t k (σ.1.2.2.1 s))))
  | _, _, _ => (-1, σ)
def setLaw (σ : Sta) (s : Nat) (t : Option Nat) : Sta := ((σ.1.1, σ.1.2.1, σ.1.2.2.1, va_up σ.1.2.2.2 s t), σ.2)
noncomputable def lawB (w : Wk) (s t : Nat) : Bool := @decide (LawOk w s t) (Classical.propDecidable _)
theorem lawB_iff {w : Wk} {s t : Nat} : lawB w s t = true ↔ LawOk w s t := by unfold lawB; exact @decide_eq_true_iff _ (Classical.propDecidable _)
noncomputable def fLaw (σ : Sta) (x y : Int32) : Int32 × Sta := match inN x σ.1.1 with
  | none => (-1, σ)
  | some s => if σ.1.2.1 s ≠ none then (-1, σ) else if y = -1 then (nI 1, setLaw σ s none) else match inN y σ.1.1 with
    | none => (-1, σ)
    | some t => if lawB σ.1 s t then (nI 1, setLaw σ s (some t)) else (-2, σ)
def fOrder (σ : Sta) (x : Int32) : Int32 × Sta := match inN x 3 with
  | none => (-1, σ)
  | some k => (nI σ.2.1, (σ.1, k, σ.2.2))
def fJoined (σ : Sta) (b : Bool) : Int32 × Sta := (bI σ.2.2.1, (σ.1, σ.2.1, b, σ.2.2.2))
def setNow (σ : Sta) (l : Option LL) : Sta := (σ.1, σ.2.1, σ.2.2.1, l, σ.2.2.2.2)
def begL (s : Nat) : Lst := ([(s, 0, 1152921504606846976)], (fun _ => 0), fun _ => 0)
noncomputable def fBegin (σ : Sta) (x : Int32) : Int32 × Sta := match inN x σ.1.1 with
  | none => (-1, σ)
  | some s => if wh σ.1 s then (rm σ.1 s, setNow σ (some (s, 0, begL s))) else (-2, σ)
def goN (w : Wk) (jn : Bool) (kind : Nat) : Nat → Lst → Nat × Lst
  | 0, ℓ => (0, ℓ)
  | n + 1, ℓ => match goS w jn kind ℓ with
    | none => (0, ℓ)
    | some ℓ' => ((goN w jn kind n ℓ').1 + 1, (goN w jn kind n ℓ').2)
def fGrow (σ : Sta) (x : Int32) : Int32 × Sta := match inN x 501 with
  | none => (-1, σ)
  | some n => match σ.2.2.2.1 with
    | none => (-2, σ)
    | some l => (nI (goN σ.1 σ.2.2.1 σ.2.1 n l.2.2).1, setNow σ (some (l.1, l.2.1 + (goN σ.1 σ.2.2.1 σ.2.1 n l.2.2).1, (goN σ.1 σ.2.2.1 σ.2.1 n l.2.2).2)))
noncomputable def loU (w : Wk) (ℓ : Lst) (x : Int32) : Nat → Nat
  | 0 => fSum ℓ.2.1 x 8
  | s + 1 => loU w ℓ x s + if su w s && decide (rm w s &&& (x ^^^ -1) = 0) then ℓ.2.2 s + opAt ℓ.1 s else 0
noncomputable def hiU (w : Wk) (ℓ : Lst) (x : Int32) : Nat → Nat
  | 0 => fSum ℓ.2.1 x 8
  | s + 1 => hiU w ℓ x s + if rm w s &&& x = 0 then 0 else ℓ.2.2 s + opAt ℓ.1 s
noncomputable def lo (w : Wk) (ℓ : Lst) (x : Int32) : Nat := loU w ℓ x w.1
noncomputable def hi (w : Wk) (ℓ : Lst) (x : Int32) : Nat := hiU w ℓ x w.1
noncomputable def wid (w : Wk) (ℓ : Lst) (x : Int32) : Int64 := lN (hi w ℓ x) - lN (lo w ℓ x)
noncomputable def untN (w : Wk) (jn : Bool) (kind : Nat) (x : Int32) (nar : Int64) : Nat → Lst → Nat × Lst
  | 0, ℓ => (0, ℓ)
  | n + 1, ℓ => if wid w ℓ x ≤ nar then (0, ℓ) else match goS w jn kind ℓ with
    | none => (0, ℓ)
    | some ℓ' => ((untN w jn kind x nar n ℓ').1 + 1, (untN w jn kind x nar n ℓ').2)
def narr (v : Nat) : Int64 := lN 1 <<< ((nI (60 - v)).toInt64 &&& 63)
noncomputable def fUntil (σ : Sta) (x y z : Int32) : Int32 × Sta := match inN x 256, inN y 61, inN z 501 with
  | some _, some v, some n => match σ.2.2.2.1 with
    | none => (-2, σ)
    | some l => (nI (untN σ.1 σ.2.2.1 σ.2.1 x (narr v) n l.2.2).1, setNow σ (some (l.1, l.2.1 + (untN σ.1 σ.2.2.1 σ.2.1 x (narr v) n l.2.2).1, (untN σ.1 σ.2.2.1 σ.2.1 x (narr v) n l.2.2).2)))
  | _, _, _ => (-1, σ)
noncomputable def fEnd (σ : Sta) (x y : Int32) : Int64 := match inN x 256, inN y 2, σ.2.2.2.1 with
  | some _, some 0, some l => lN (lo σ.1 l.2.2 x)
  | some _, some _, some l => lN (hi σ.1 l.2.2 x)
  | _, _, _ => lN 0
/-- bit by bit -/
def pl (all : Nat) : Nat → Nat × Nat → Nat × Nat
  | 0, q => q
  | k + 1, q => pl all k (if all ≤ 2 * q.2 then (2 * q.1 + 1, 2 * q.2 - all) else (2 * q.1, 2 * q.2))
def ptA (sh all : Nat) (up : Bool) : Int32 := if all ≤ sh then nI 1073741824 else if up = true ∧ 0 < (pl all 30 (0, sh)).2 then nI ((pl all 30 (0, sh)).1 + 1) else nI (pl all 30 (0, sh)).1
noncomputable def fGiven (σ : Sta) (x y z : Int32) : Int32 := match inN x 256, inN y 256, inN z 2 with
  | some _, some _, some sd => match σ.2.2.2.1 with
    | none => -2
    | some l => if sd = 0 then (if lo σ.1 l.2.2 (x &&& y) + hi σ.1 l.2.2 (y &&& (x ^^^ -1)) = 0 then nI 0 else ptA (lo σ.1 l.2.2 (x &&& y)) (lo σ.1 l.2.2 (x &&& y) + hi σ.1 l.2.2 (y &&& (x ^^^ -1))) false)
      else (if hi σ.1 l.2.2 (x &&& y) + lo σ.1 l.2.2 (y &&& (x ^^^ -1)) = 0 then nI 1073741824 else ptA (hi σ.1 l.2.2 (x &&& y)) (hi σ.1 l.2.2 (x &&& y) + lo σ.1 l.2.2 (y &&& (x ^^^ -1))) true)
  | _, _, _ => -1
noncomputable def triW (σ : Sta) (s : Nat) (x : Int32) (n kind : Nat) : Int64 := wid σ.1 (goN σ.1 σ.2.2.1 kind n (begL s)).2 x
noncomputable def fBest (σ : Sta) (x y : Int32) : Int32 := match inN x 256, inN y 201 with
  | some _, some n => match σ.2.2.2.1 with
    | none => -2
    | some l => if triW σ l.1 x n 1 < triW σ l.1 x n 0 then (if triW σ l.1 x n 2 < triW σ l.1 x n 1 then nI 2 else nI 1) else (if triW σ l.1 x n 2 < triW σ l.1 x n 0 then nI 2 else nI 0)
  | _, _ => -1
def fItem (σ : Sta) (x y : Int32) : Int32 := match inN y 2 with
  | none => -1
  | some wt => match σ.2.2.2.1 with
    | none => -2
    | some l => match inN x l.2.2.1.length with
      | none => -1
      | some i => if wt = 0 then nI (gi l.2.2.1 i).1 else nI (gi l.2.2.1 i).2.1
def fUnits (σ : Sta) (x : Int32) : Int64 := match σ.2.2.2.1 with
  | none => lN 0
  | some l => match inN x l.2.2.1.length with
    | none => lN 0
    | some i => lN (gi l.2.2.1 i).2.2
def fFound (σ : Sta) (x : Int32) : Int64 := match σ.2.2.2.1, inN x 8 with
  | some l, some o => lN (l.2.2.2.1 o)
  | _, _ => lN 0
def fRests (σ : Sta) (x : Int32) : Int64 := match σ.2.2.2.1, inN x σ.1.1 with
  | some l, some s => lN (l.2.2.2.2 s)
  | _, _ => lN 0
def fSave (σ : Sta) (x : Int32) : Int32 × Sta := match inN x 3 with
  | none => (-1, σ)
  | some k => match σ.2.2.2.1 with
    | none => (-2, σ)
    | some l => (nI l.2.2.1.length, (σ.1, σ.2.1, σ.2.2.1, some l, va_up σ.2.2.2.2 k (some l)))
def fBack (σ : Sta) (x : Int32) : Int32 × Sta := match inN x 3 with
  | none => (-1, σ)
  | some k => match σ.2.2.2.2 k with
    | none => (-2, σ)
    | some l => (nI l.2.2.1.length, setNow σ (some l))
def fTold (σ : Sta) (x : Int32) : Int32 := match inN x 5 with
  | some 0 => nI σ.1.1
  | some 1 => match σ.2.2.2.1 with
    | none => nI 0
    | some l => nI l.2.2.1.length
  | some 2 => match σ.2.2.2.1 with
    | none => nI 0
    | some l => nI l.2.1
  | some 3 => match σ.2.2.2.1 with
    | none => -1
    | some l => nI l.1
  | some _ => nI σ.2.1
  | none => match inN (x - nI 10) σ.1.1 with
    | none => -1
    | some s => oI (σ.1.2.2.2 s)
/-! what is true stays true -/
theorem addA_tot (t k : Nat) : ∀ l, tot (addA t k l) = tot l + k
  | [] => by simp [addA, tot]
  | p :: r => by
    have := addA_tot t k r
    unfold addA
    split <;> simp only [tot, List.map_cons, List.sum_cons] at this ⊢ <;> omega
theorem addA_aw {n t k : Nat} (ht : t < n) (hk : 0 < k) : ∀ {l : List (Nat × Nat)}, (∀ p ∈ l, p.1 < n ∧ 1 ≤ p.2) → ∀ p ∈ addA t k l, p.1 < n ∧ 1 ≤ p.2
  | [], _, p, hp => by
    rw [addA, List.mem_singleton] at hp
    rw [hp]; exact ⟨ht, hk⟩
  | x :: r, h, p, hp => by
    unfold addA at hp
    split at hp
    · rcases List.mem_cons.mp hp with e | hp
      · rw [e]; have := h x List.mem_cons_self; exact ⟨this.1, by dsimp only; omega⟩
      · exact h p (List.mem_cons_of_mem _ hp)
    · rcases List.mem_cons.mp hp with e | hp
      · rw [e]; exact h x List.mem_cons_self
      · exact addA_aw ht hk (fun p hp => h p (List.mem_cons_of_mem _ hp)) p hp
theorem addA_keys (t k : Nat) : ∀ l : List (Nat × Nat), ∀ x, x ∈ (addA t k l).map (fun p => p.1) → x = t ∨ x ∈ l.map (fun p => p.1)
  | [], x, hx => by simp [addA] at hx; exact Or.inl hx
  | p :: r, x, hx => by
    unfold addA at hx
    split at hx
    · exact Or.inr (by simpa using hx)
    · rw [List.map_cons, List.mem_cons] at hx
      rcases hx with e | hx
      · exact Or.inr (by rw [List.map_cons, List.mem_cons]; exact Or.inl e)
      · rcases addA_keys t k r x hx with e | e
        · exact Or.inl e
        · exact Or.inr (by rw [List.map_cons, List.mem_cons]; exact Or.inr e)
theorem addA_nd (t k : Nat) : ∀ l : List (Nat × Nat), (l.map (fun p => p.1)).Nodup → ((addA t k l).map (fun p => p.1)).Nodup
  | [], _ => by simp [addA]
  | p :: r, h => by
    rw [List.map_cons, List.nodup_cons] at h
    unfold addA
    split
    · rw [List.map_cons, List.nodup_cons]; exact h
    · next hc =>
      rw [List.map_cons, List.nodup_cons]
      refine ⟨fun z => ?_, addA_nd t k r h.2⟩
      rcases addA_keys t k r _ z with e | e
      · exact hc e
      · exact h.1 e
theorem SI.ww {σ : Sta} (H : SI σ) : WW σ.1 := H.1
theorem fState_si {σ : Sta} {x : Int32} (H : SI σ) : SI (fState σ x).2 := by
  unfold fState
  split
  · exact H
  · split
    · exact H
    · next h20 =>
      obtain ⟨⟨h1, h2, h3, h4, h5, h6⟩, ho, -, -⟩ := H
      refine ⟨⟨?_, fun s hs => ?_, fun s o hso => ?_, fun s => ?_, fun s t _ hl => ?_, h6⟩, ho, fun l hl => ?_, fun k l hl => ?_⟩
      · show σ.1.1 + 1 ≤ 20; omega
      · exact h2 s (by have : σ.1.1 + 1 ≤ s := hs; omega)
      · have hso : va_up σ.1.2.1 σ.1.1 (inN x 8) s = some o := hso
        by_cases e : s = σ.1.1
        · subst e
          rw [mu_self] at hso
          exact ⟨((inN_s (by omega)).mp hso).1, h2 _ (Nat.le_refl _)⟩
        · rw [mu_ne e] at hso
          exact h3 s o hso
      · exact ⟨fun p hp => ⟨Nat.lt_succ_of_lt ((h4 s).1 p hp).1, ((h4 s).1 p hp).2⟩, (h4 s).2⟩
      · cases hl
      · cases hl
      · cases hl
theorem fArrow_si {σ : Sta} {x y z : Int32} (H : SI σ) : SI (fArrow σ x y z).2 := by
  unfold fArrow
  split
  · next s t k hs ht hk =>
    split
    · exact H
    · next hc =>
      split
      · exact H
      · next h16 =>
        obtain ⟨⟨h1, h2, h3, h4, h5, h6⟩, ho, -, -⟩ := H
        have hs' := ((inN_s (by omega)).mp hs).1
        have ht' := ((inN_s (by omega)).mp ht).1
        have hn : σ.1.2.1 s = none := Classical.byContradiction (fun q => hc (Or.inl q))
        have hk0 : k ≠ 0 := fun q => hc (Or.inr q)
        refine ⟨⟨h1, fun s' hs2 => ?_, fun s' o hso => ?_, fun s' => ?_, fun s' t' _ hl => ?_, fun s' => ?_⟩, ho, fun l hl => ?_, fun k l hl => ?_⟩
        · have hs2 : σ.1.1 ≤ s' := hs2
          show va_up σ.1.2.2.1 s (addA t k (σ.1.2.2.1 s)) s' = []
          rw [mu_ne (by omega)]; exact h2 s' hs2
        · have hso : σ.1.2.1 s' = some o := hso
          refine ⟨(h3 s' o hso).1, ?_⟩
          show va_up σ.1.2.2.1 s (addA t k (σ.1.2.2.1 s)) s' = []
          have : s' ≠ s := fun q => by rw [q, hn] at hso; cases hso
          rw [mu_ne this]; exact (h3 s' o hso).2
        · show AW σ.1.1 (va_up σ.1.2.2.1 s (addA t k (σ.1.2.2.1 s)) s')
          by_cases e : s' = s
          · subst e
            rw [mu_self]
            exact ⟨addA_aw ht' (by omega) (h4 s').1, by rw [addA_tot]; omega⟩
          · rw [mu_ne e]; exact h4 s'
        · cases hl
        · show ((va_up σ.1.2.2.1 s (addA t k (σ.1.2.2.1 s)) s').map (fun p => p.1)).Nodup
          by_cases e : s' = s
          · subst e; rw [mu_self]; exact addA_nd t k _ (h6 s')
          · rw [mu_ne e]; exact h6 s'
        · cases hl
        · cases hl
  · exact H
theorem setLaw_si {σ : Sta} {s : Nat} {t : Option Nat} (H : SI σ) (ht : ∀ t', t = some t' → t' < σ.1.1 ∧ LawOk σ.1 s t') : SI (setLaw σ s t) := by
  obtain ⟨⟨h1, h2, h3, h4, h5, h6⟩, ho, hn, hk⟩ := H
  refine ⟨⟨h1, h2, h3, h4, fun s' t' hs hl => ?_, h6⟩, ho, hn, hk⟩
  have hl : va_up σ.1.2.2.2 s t s' = some t' := hl
  by_cases e : s' = s
  · subst e
    rw [mu_self] at hl
    exact ht t' hl
  · rw [mu_ne e] at hl
    exact h5 s' t' hs hl
theorem fLaw_si {σ : Sta} {x y : Int32} (H : SI σ) : SI (fLaw σ x y).2 := by
  have hn := H.1.1
  unfold fLaw
  split
  · exact H
  · split
    · exact H
    · split
      · exact setLaw_si H (fun t' h => by cases h)
      · split
        · exact H
        · next t ht =>
          split
          · next hb => exact setLaw_si H (fun t' h => by cases h; exact ⟨((inN_s (by omega)).mp ht).1, lawB_iff.mp hb⟩)
          · exact H
theorem fOrder_si {σ : Sta} {x : Int32} (H : SI σ) : SI (fOrder σ x).2 := by
  unfold fOrder
  split
  · exact H
  · next k hk => exact ⟨H.1, by have := ((inN_s (by omega)).mp hk).1; show k ≤ 2; omega, H.2.2⟩
theorem fJoined_si {σ : Sta} {b : Bool} (H : SI σ) : SI (fJoined σ b).2 := H
theorem setNow_si {σ : Sta} {l : LL} (H : SI σ) (h1 : l.1 < σ.1.1) (h2 : LI σ.1 l.2.2) : SI (setNow σ (some l)) := ⟨H.1, H.2.1, fun l' e => by cases e; exact ⟨h1, h2⟩, H.2.2.2⟩
theorem begL_li {w : Wk} {s : Nat} (hs : s < w.1) : LI w (begL s) := ⟨by simp [begL], fun p hp => by simp [begL] at hp; rw [hp]; exact ⟨hs, by dsimp only; omega⟩, by simp [begL, uSum, fs]⟩
theorem fBegin_si {σ : Sta} {x : Int32} (H : SI σ) : SI (fBegin σ x).2 := by
  have hn := H.1.1
  unfold fBegin
  split
  · exact H
  · next s hs =>
    split
    · have hs' := ((inN_s (by omega)).mp hs).1
      exact setNow_si H hs' (begL_li hs')
    · exact H
theorem goN_li {w : Wk} {jn : Bool} {kind : Nat} (hW : WW w) : ∀ (n : Nat) (ℓ : Lst), LI w ℓ → LI w (goN w jn kind n ℓ).2
  | 0, ℓ, h => h
  | n + 1, ℓ, h => by
    unfold goN
    cases hg : goS w jn kind ℓ with
    | none => exact h
    | some ℓ' => exact goN_li hW n ℓ' (goS_li hW h hg)
theorem fGrow_si {σ : Sta} {x : Int32} (H : SI σ) : SI (fGrow σ x).2 := by
  unfold fGrow
  split
  · exact H
  · split
    · exact H
    · next l hl => exact setNow_si H (H.2.2.1 l hl).1 (goN_li H.1 _ _ (H.2.2.1 l hl).2)
theorem untN_li {w : Wk} {jn : Bool} {kind : Nat} {x : Int32} {nar : Int64} (hW : WW w) : ∀ (n : Nat) (ℓ : Lst), LI w ℓ → LI w (untN w jn kind x nar n ℓ).2
  | 0, ℓ, h => h
  | n + 1, ℓ, h => by
    unfold untN
    split
    · exact h
    · cases hg : goS w jn kind ℓ with
      | none => exact h
      | some ℓ' => exact untN_li hW n ℓ' (goS_li hW h hg)
theorem fUntil_si {σ : Sta} {x y z : Int32} (H : SI σ) : SI (fUntil σ x y z).2 := by
  unfold fUntil
  split
  · split
    · exact H
    · next l hl => exact setNow_si H (H.2.2.1 l hl).1 (untN_li H.1 _ _ (H.2.2.1 l hl).2)
  · exact H
theorem fSave_si {σ : Sta} {x : Int32} (H : SI σ) : SI (fSave σ x).2 := by
  unfold fSave
  split
  · exact H
  · next k hk =>
    split
    · exact H
    · next l hl =>
      refine ⟨H.1, H.2.1, fun l' e => by cases e; exact H.2.2.1 l hl, fun k' l' e => ?_⟩
      have e : va_up σ.2.2.2.2 k (some l) k' = some l' := e
      by_cases z : k' = k
      · subst z; rw [mu_self] at e; cases e; exact H.2.2.1 l hl
      · rw [mu_ne z] at e; exact H.2.2.2 k' l' e
theorem fBack_si {σ : Sta} {x : Int32} (H : SI σ) : SI (fBack σ x).2 := by
  unfold fBack
  split
  · exact H
  · next k hk =>
    split
    · exact H
    · next l hl => exact setNow_si H (H.2.2.2 k l hl).1 (H.2.2.2 k l hl).2
def sta0 : Sta := ((0, noW, (fun _ => []), noW), 0, false, none, noL)
theorem sta0_si : SI sta0 := ⟨⟨Nat.zero_le _, fun _ _ => rfl, fun s o h => (by cases h), fun s => ⟨fun p hp => (by cases hp), by simp [sta0, tot]⟩, fun s t h => (by cases h), fun s => List.nodup_nil⟩, Nat.zero_le _, fun l h => (by cases h), fun k l h => (by cases h)⟩

/-! what a step does, and that nothing is lost -/
def hasK (L : List Itm) (s d : Nat) : Prop := ∃ p ∈ L, p.1 = s ∧ p.2.1 = d
theorem ixOf_none (s d : Nat) : ∀ (L : List Itm) (o : Nat), ixOf s d L o = none ↔ ¬ hasK L s d
  | [], o => ⟨fun _ => fun ⟨p, hp, _⟩ => by simp at hp, fun _ => rfl⟩
  | x :: r, o => by
    unfold ixOf
    by_cases e : x.1 = s ∧ x.2.1 = d
    · rw [if_pos e]
      exact ⟨fun z => (by cases z), fun z => absurd ⟨x, List.mem_cons_self, e⟩ z⟩
    · rw [if_neg e, ixOf_none s d r (o + 1)]
      refine ⟨fun z => fun ⟨p, hp, hk⟩ => ?_, fun z => fun ⟨p, hp, hk⟩ => z ⟨p, List.mem_cons_of_mem _ hp, hk⟩⟩
      rcases List.mem_cons.mp hp with rfl | hp
      · exact e hk
      · exact z ⟨p, hp, hk⟩
theorem repU_iff (Sh : List Itm) (j : Nat) : ∀ k, repU Sh j k = true ↔ ∃ i, i < k ∧ (gi Sh i).1 = (gi Sh j).1 ∧ (gi Sh i).2.1 = (gi Sh j).2.1
  | 0 => ⟨fun z => (by cases z), fun ⟨i, hi, _⟩ => by omega⟩
  | k + 1 => by
    unfold repU
    rw [Bool.or_eq_true, repU_iff Sh j k, decide_eq_true_eq]
    refine ⟨fun z => z.elim (fun ⟨i, hi, hk⟩ => ⟨i, by omega, hk⟩) (fun hk => ⟨k, by omega, hk⟩), fun ⟨i, hi, hk⟩ => ?_⟩
    by_cases e : i = k
    · subst e; exact Or.inr hk
    · exact Or.inl ⟨i, by omega, hk⟩
theorem gi_mem {L : List Itm} {i : Nat} (hi : i < L.length) : gi L i ∈ L := by rw [gi_eq hi]; exact List.getElem_mem hi
theorem mem_gi {L : List Itm} {p : Itm} (hp : p ∈ L) : ∃ i, i < L.length ∧ gi L i = p := by
  obtain ⟨i, hi, e⟩ := List.getElem_of_mem hp
  exact ⟨i, hi, by rw [gi_eq hi]; exact e⟩
theorem hasK_adS {C : List Itm} {p : Itm} (s d : Nat) : hasK (adS true C p) s d ↔ hasK C s d ∨ (p.1 = s ∧ p.2.1 = d) := by
  unfold adS
  cases hx : ixJ true C p with
  | none =>
    dsimp only
    constructor
    · rintro ⟨x, hx, hk⟩
      rcases List.mem_append.mp hx with z | z
      · exact Or.inl ⟨x, z, hk⟩
      · rw [List.mem_singleton.mp z] at hk; exact Or.inr hk
    · rintro (⟨x, hx, hk⟩ | hk)
      · exact ⟨x, List.mem_append_left _ hx, hk⟩
      · exact ⟨p, List.mem_append_right _ List.mem_cons_self, hk⟩
  | some i =>
    obtain ⟨h1, h2, h3⟩ := ixJ_lt hx
    dsimp only
    constructor
    · rintro ⟨x, hx, hk⟩
      rcases List.mem_or_eq_of_mem_set hx with z | z
      · exact Or.inl ⟨x, z, hk⟩
      · rw [z] at hk; exact Or.inl ⟨gi C i, gi_mem h1, hk⟩
    · rintro (⟨x, hx, hk⟩ | hk)
      · obtain ⟨j, hj, e⟩ := mem_gi hx
        by_cases hij : i = j
        · subst hij
          exact ⟨_, List.mem_of_getElem? (List.getElem?_set_self h1), by rw [← e] at hk; exact hk⟩
        · refine ⟨x, List.mem_of_getElem? (i := j) ?_, hk⟩
          rw [List.getElem?_set_ne hij, List.getElem?_eq_getElem hj, ← gi_eq hj, e]
      · exact ⟨_, List.mem_of_getElem? (List.getElem?_set_self h1), by dsimp only; rw [h2, h3]; exact hk⟩
theorem pu_snoc (jn : Bool) (C A : List Itm) (p : Itm) : pu jn C (A ++ [p]) = adS jn (pu jn C A) p := by simp [pu]
theorem take_gi {Sh : List Itm} {j : Nat} (hj : j < Sh.length) : Sh.take (j + 1) = Sh.take j ++ [gi Sh j] := by
  rw [gi_eq hj, List.take_succ_eq_append_getElem hj]
theorem pu_take (C Sh : List Itm) : ∀ j, j ≤ Sh.length → (pu true C (Sh.take j)).length = C.length + cn C Sh j ∧ ∀ s d, hasK (pu true C (Sh.take j)) s d ↔ hasK C s d ∨ ∃ i, i < j ∧ (gi Sh i).1 = s ∧ (gi Sh i).2.1 = d
  | 0, _ => by
    rw [List.take_zero]
    exact ⟨rfl, fun s d => ⟨Or.inl, fun z => z.elim id (fun ⟨i, hi, _⟩ => by omega)⟩⟩
  | j + 1, hj => by
    obtain ⟨h1, h2⟩ := pu_take C Sh j (by omega)
    rw [take_gi (by omega), pu_snoc]
    generalize pu true C (Sh.take j) = P at h1 h2
    refine ⟨?_, fun s d => ?_⟩
    · unfold cn
      have hk := h2 (gi Sh j).1 (gi Sh j).2.1
      have hr := repU_iff Sh j j
      unfold adS ixJ
      rw [if_pos rfl]
      cases hx : ixOf (gi Sh j).1 (gi Sh j).2.1 P 0 with
      | none =>
        rw [ixOf_none, hk] at hx
        rw [if_pos]
        · simp; omega
        · refine ⟨(ixOf_none _ _ _ _).mpr (fun z => hx (Or.inl z)), ?_⟩
          cases hb : repU Sh j j with
          | false => rfl
          | true => exact absurd (Or.inr (hr.mp hb)) hx
      | some i =>
        have hh : hasK P (gi Sh j).1 (gi Sh j).2.1 := by
          cases Classical.em (hasK P (gi Sh j).1 (gi Sh j).2.1) with
          | inl z => exact z
          | inr z => rw [(ixOf_none _ _ _ 0).mpr z] at hx; cases hx
        rw [if_neg]
        · simp; omega
        · rintro ⟨z1, z2⟩
          rcases hk.mp hh with z | z
          · exact (ixOf_none _ _ _ _).mp z1 z
          · rw [hr.mpr z] at z2; cases z2
    · rw [hasK_adS, h2]
      constructor
      · rintro ((z | ⟨i, hi, hk⟩) | hk)
        · exact Or.inl z
        · exact Or.inr ⟨i, by omega, hk⟩
        · exact Or.inr ⟨j, by omega, hk⟩
      · rintro (z | ⟨i, hi, hk⟩)
        · exact Or.inl (Or.inl z)
        · by_cases e : i = j
          · subst e; exact Or.inr hk
          · exact Or.inl (Or.inr ⟨i, by omega, hk⟩)
theorem pu_false (C : List Itm) : ∀ Sh : List Itm, (pu false C Sh).length = C.length + Sh.length
  | [] => rfl
  | p :: r => by
    have := pu_false (adS false C p) r
    have e : (adS false C p).length = C.length + 1 := by simp [adS, ixJ]
    show (pu false (adS false C p) r).length = _
    rw [this, e, List.length_cons]; omega
theorem pu_cnt (jn : Bool) (C Sh : List Itm) : (pu jn C Sh).length = C.length + cnt jn C Sh := by
  cases jn with
  | false => exact pu_false C Sh
  | true =>
    have := (pu_take C Sh Sh.length (Nat.le_refl _)).1
    rw [List.take_length] at this
    exact this
theorem hasK_erase {L : List Itm} {i s d : Nat} (hi : i < L.length) (hne : ¬ ((gi L i).1 = s ∧ (gi L i).2.1 = d)) : hasK (L.eraseIdx i) s d ↔ hasK L s d := by
  constructor
  · rintro ⟨p, hp, hk⟩
    exact ⟨p, List.mem_of_mem_eraseIdx hp, hk⟩
  · rintro ⟨p, hp, hk⟩
    obtain ⟨j, hj, e⟩ := mem_gi hp
    have hij : j ≠ i := fun z => hne (by rw [← z, e]; exact hk)
    refine ⟨p, ?_, hk⟩
    rw [List.mem_eraseIdx_iff_getElem]
    exact ⟨j, hj, hij, by rw [← gi_eq hj]; exact e⟩
theorem cn_erase {L Sh : List Itm} {i : Nat} (hi : i < L.length) (hne : ∀ p ∈ Sh, p.2.1 ≠ (gi L i).2.1) : ∀ j, j ≤ Sh.length → cn (L.eraseIdx i) Sh j = cn L Sh j
  | 0, _ => rfl
  | j + 1, hj => by
    have ih := cn_erase hi hne j (by omega)
    have hk : ixOf (gi Sh j).1 (gi Sh j).2.1 (L.eraseIdx i) 0 = none ↔ ixOf (gi Sh j).1 (gi Sh j).2.1 L 0 = none := by
      rw [ixOf_none, ixOf_none, hasK_erase hi (fun z => hne _ (gi_mem (by omega : j < Sh.length)) z.2.symm)]
    unfold cn
    rw [ih]
    congr 1
    by_cases z : ixOf (gi Sh j).1 (gi Sh j).2.1 L 0 = none
    · simp only [z, hk.mpr z]
    · have z' : ¬ ixOf (gi Sh j).1 (gi Sh j).2.1 (L.eraseIdx i) 0 = none := fun y => z (hk.mp y)
      rw [if_neg (fun y => z' y.1), if_neg (fun y => z y.1)]
theorem cnt_erase {jn : Bool} {L Sh : List Itm} {i : Nat} (hi : i < L.length) (hne : ∀ p ∈ Sh, p.2.1 ≠ (gi L i).2.1) : cnt jn (L.eraseIdx i) Sh = cnt jn L Sh := by
  unfold cnt
  rw [cn_erase hi hne Sh.length (Nat.le_refl _)]
theorem spr_mem {m D : Nat} {ex : Option Nat} {d f : Nat} : ∀ {l : List (Nat × Nat)} {p : Itm}, p ∈ spr m D ex d f l → p.2.1 = d ∧ (∃ x ∈ l, x.1 = p.1) ∧ 0 < p.2.2
  | [], p, h => by simp [spr] at h
  | x :: r, p, h => by
    unfold spr at h
    split at h
    · obtain ⟨h1, ⟨y, hy, e⟩, h3⟩ := spr_mem h
      exact ⟨h1, ⟨y, List.mem_cons_of_mem _ hy, e⟩, h3⟩
    · next hc =>
      rcases List.mem_cons.mp h with rfl | h
      · exact ⟨rfl, ⟨x, List.mem_cons_self, rfl⟩, by dsimp only; exact Nat.pos_of_ne_zero (fun z => hc (Or.inr z))⟩
      · obtain ⟨h1, ⟨y, hy, e⟩, h3⟩ := spr_mem h
        exact ⟨h1, ⟨y, List.mem_cons_of_mem _ hy, e⟩, h3⟩
def exs (ex : Option Nat) : List (Nat × Nat) → Nat
  | [] => 0
  | p :: r => exs ex r + if some p.1 = ex then 0 else p.2
theorem spr_sum (m D : Nat) (ex : Option Nat) (d f : Nat) : ∀ l, uSum (spr m D ex d f l) ≤ por m (f * exs ex l) D
  | [] => Nat.zero_le _
  | p :: r => by
    have ih := spr_sum m D ex d f r
    unfold spr exs
    by_cases e : some p.1 = ex
    · rw [if_pos (Or.inl e), if_pos e]; exact ih
    · rw [if_neg e, Nat.mul_add]
      have h1 := por_add m (f * exs ex r) (f * p.2) D
      by_cases z : por m (f * p.2) D = 0
      · rw [if_pos (Or.inr z)]; omega
      · rw [if_neg (fun q => q.elim e z)]
        simp only [uSum, List.map_cons, List.sum_cons] at ih ⊢
        omega
theorem exs_none : ∀ l : List (Nat × Nat), exs none l = tot l
  | [] => rfl
  | p :: r => by
    have := exs_none r
    simp only [exs, tot, List.map_cons, List.sum_cons, reduceCtorEq, if_false] at this ⊢
    omega
theorem exs_le (ex : Option Nat) : ∀ l : List (Nat × Nat), exs ex l ≤ tot l
  | [] => Nat.le_refl _
  | p :: r => by
    have := exs_le ex r
    simp only [exs, tot, List.map_cons, List.sum_cons] at this ⊢
    split <;> omega
theorem exs_some (t : Nat) : ∀ l : List (Nat × Nat), exs (some t) l + wt t l ≤ tot l
  | [] => Nat.le_refl _
  | p :: r => by
    have h1 := exs_some t r
    have h2 := exs_le (some t) r
    simp only [exs, wt, tot, List.map_cons, List.sum_cons, Option.some.injEq] at h1 h2 ⊢
    split <;> omega
theorem divS_sum {w : Wk} {s d m : Nat} (hW : WW w) (hs : s < w.1) : uSum (divS w s d m) ≤ m := by
  have hto := hW.tot s
  unfold divS
  cases hlaw : w.2.2.2 s with
  | none =>
    dsimp only
    refine Nat.le_trans (spr_sum m 16 none (d + 1) 1 _) (por_le (by omega) ?_)
    rw [exs_none]; omega
  | some r =>
    obtain ⟨hr, hok⟩ := hW.2.2.2.2.1 s r hs hlaw
    dsimp only
    by_cases hrs : r = s
    · subst hrs
      rw [LawOk, if_pos rfl] at hok
      rw [if_pos rfl]
      have := exs_some r (w.2.2.1 r)
      refine Nat.le_trans (spr_sum m _ _ (d + 1) 1 _) (por_le (by omega) ?_)
      omega
    · rw [LawOk, if_neg hrs] at hok
      rw [if_neg hrs, uSum_app]
      obtain ⟨k1, k2, k3, k4, k5, k6, k7⟩ := hok
      have e1 := exs_some r (w.2.2.1 s)
      have e2 := exs_some s (w.2.2.1 r)
      have a16 := hW.wt s r
      have b16 := hW.wt r s
      have h1 := spr_sum m (256 - wt r (w.2.2.1 s) * wt s (w.2.2.1 r)) (some r) (d + 1) 16 (w.2.2.1 s)
      have h2 := spr_sum m (256 - wt r (w.2.2.1 s) * wt s (w.2.2.1 r)) (some s) (min 40 (d + 2)) (wt r (w.2.2.1 s)) (w.2.2.1 r)
      generalize wt r (w.2.2.1 s) = a at *
      generalize wt s (w.2.2.1 r) = b at *
      have h3 := por_add m (16 * exs (some r) (w.2.2.1 s)) (a * exs (some s) (w.2.2.1 r)) (256 - a * b)
      have h4 : a * exs (some s) (w.2.2.1 r) ≤ a * (16 - b) := Nat.mul_le_mul_left _ (by omega)
      rw [Nat.mul_sub] at h4
      have hab : a * b ≤ a * 16 := Nat.mul_le_mul_left _ b16
      have h5 := por_le (m := m) (w := 16 * exs (some r) (w.2.2.1 s) + a * exs (some s) (w.2.2.1 r)) (D := 256 - a * b) (by omega) (by omega)
      omega
theorem divS_mem {w : Wk} {s d m : Nat} (hW : WW w) (hs : s < w.1) (hd : d < 40) : ∀ p ∈ divS w s d m, p.1 < w.1 ∧ p.2.1 ≤ 40 ∧ d < p.2.1 := by
  intro p hp
  have key : ∀ (D : Nat) (ex : Option Nat) (d' f x : Nat), d' ≤ 40 → d < d' → p ∈ spr m D ex d' f (w.2.2.1 x) → p.1 < w.1 ∧ p.2.1 ≤ 40 ∧ d < p.2.1 := by
    intro D ex d' f x h1 h2 h3
    obtain ⟨e1, ⟨y, hy, e2⟩, -⟩ := spr_mem h3
    have := ((hW.2.2.2.1 x).1 y hy).1
    exact ⟨by omega, by omega, by omega⟩
  unfold divS at hp
  cases hlaw : w.2.2.2 s with
  | none => rw [hlaw] at hp; exact key _ _ _ _ _ (by omega) (by omega) hp
  | some r =>
    rw [hlaw] at hp
    dsimp only at hp
    by_cases hrs : r = s
    · rw [if_pos hrs] at hp
      exact key _ _ _ _ _ (by omega) (by omega) hp
    · rw [if_neg hrs] at hp
      rcases List.mem_append.mp hp with z | z
      · exact key _ _ _ _ _ (by omega) (by omega) z
      · exact key _ _ _ _ _ (by omega) (by omega) z
theorem divS_len {w : Wk} {s d m : Nat} (hW : WW w) : (divS w s d m).length ≤ 32 := by
  have h1 := hW.len s
  unfold divS
  cases hlaw : w.2.2.2 s with
  | none => exact Nat.le_trans (spr_len _ _ _ _ _ _) (by omega)
  | some r =>
    have h2 := hW.len r
    dsimp only
    by_cases hrs : r = s
    · rw [if_pos hrs]; exact Nat.le_trans (spr_len _ _ _ _ _ _) (by omega)
    · rw [if_neg hrs, List.length_append]
      have a := spr_len m (256 - wt r (w.2.2.1 s) * wt s (w.2.2.1 r)) (some r) (d + 1) 16 (w.2.2.1 s)
      have b := spr_len m (256 - wt r (w.2.2.1 s) * wt s (w.2.2.1 r)) (some s) (min 40 (d + 2)) (wt r (w.2.2.1 s)) (w.2.2.1 r)
      omega
/-- sums of numbers -/
def fs (f : Nat → Nat) : Nat → Nat
  | 0 => 0
  | n + 1 => fs f n + f n
theorem fs_up (f : Nat → Nat) (k x : Nat) : ∀ n, fs (va_up f k (f k + x)) n = fs f n + if k < n then x else 0
  | 0 => by simp [fs]
  | n + 1 => by
    have := fs_up f k x n
    unfold fs
    rw [this]
    by_cases e : n = k
    · subst e; simp [va_up]; omega
    · by_cases e2 : k < n
      · simp [va_up, e, e2, show k < n + 1 by omega]; omega
      · simp [va_up, e, e2, show ¬ k < n + 1 by omega]
theorem uSum_erase (L : List Itm) (k : Nat) (hk : k < L.length) : uSum L = uSum (L.eraseIdx k) + (gi L k).2.2 := by
  rw [gi_eq hk]
  revert k
  induction L with
  | nil => intro k hk; simp at hk
  | cons p r ih =>
    intro k hk
    cases k with
    | zero => simp [uSum]; omega
    | succ k =>
      have := ih k (by simpa using hk)
      simp only [uSum, List.map_cons, List.sum_cons, List.eraseIdx_cons_succ, List.getElem_cons_succ] at this ⊢
      omega
theorem pu_sum (jn : Bool) : ∀ (Sh C : List Itm), uSum (pu jn C Sh) = uSum C + uSum Sh
  | [], C => by simp [pu, uSum]
  | p :: r, C => by
    have := pu_sum jn r (adS jn C p)
    rw [adS_sum] at this
    show uSum (pu jn (adS jn C p) r) = _
    rw [this]
    simp only [uSum, List.map_cons, List.sum_cons]
    omega
theorem adS_memN {jn : Bool} {n : Nat} {L : List Itm} {p : Itm} (hL : ∀ x ∈ L, x.1 < n ∧ x.2.1 ≤ 40) (hp : p.1 < n ∧ p.2.1 ≤ 40) : ∀ x ∈ adS jn L p, x.1 < n ∧ x.2.1 ≤ 40 := by
  unfold adS
  split
  · next i hi =>
    intro x hx
    obtain ⟨h1, h2, h3⟩ := ixJ_lt hi
    rcases List.mem_or_eq_of_mem_set hx with z | z
    · exact hL x z
    · rw [z]; dsimp only; rw [h2, h3]; exact hp
  · intro x hx
    rcases List.mem_append.mp hx with z | z
    · exact hL x z
    · rw [List.mem_singleton.mp z]; exact hp
theorem pu_mem {jn : Bool} {n : Nat} : ∀ {Sh C : List Itm}, (∀ x ∈ C, x.1 < n ∧ x.2.1 ≤ 40) → (∀ x ∈ Sh, x.1 < n ∧ x.2.1 ≤ 40) → ∀ x ∈ pu jn C Sh, x.1 < n ∧ x.2.1 ≤ 40
  | [], C, hC, _ => hC
  | p :: r, C, hC, hS => pu_mem (Sh := r) (C := adS jn C p) (adS_memN hC (hS p List.mem_cons_self)) (fun x hx => hS x (List.mem_cons_of_mem _ hx))
/-- a listing: its items, what is found, what rests -/
abbrev Lst : Type := List Itm × (Nat → Nat) × (Nat → Nat)
/-- TO GO ON once -/
def goS (w : Wk) (jn : Bool) (kind : Nat) (ℓ : Lst) : Option Lst := match nxt kind ℓ.1 with
  | none => none
  | some i => match w.2.1 (gi ℓ.1 i).1 with
    | some o => some (ℓ.1.eraseIdx i, va_up ℓ.2.1 o (ℓ.2.1 o + (gi ℓ.1 i).2.2), ℓ.2.2)
    | none => if 40 ≤ (gi ℓ.1 i).2.1 then some (ℓ.1.eraseIdx i, ℓ.2.1, va_up ℓ.2.2 (gi ℓ.1 i).1 (ℓ.2.2 (gi ℓ.1 i).1 + (gi ℓ.1 i).2.2))
      else if 60 < ℓ.1.length - 1 + cnt jn ℓ.1 (divS w (gi ℓ.1 i).1 (gi ℓ.1 i).2.1 (gi ℓ.1 i).2.2) then none
      else some (pu jn (ℓ.1.eraseIdx i) (divS w (gi ℓ.1 i).1 (gi ℓ.1 i).2.1 (gi ℓ.1 i).2.2), ℓ.2.1, va_up ℓ.2.2 (gi ℓ.1 i).1 (ℓ.2.2 (gi ℓ.1 i).1 + ((gi ℓ.1 i).2.2 - uSum (divS w (gi ℓ.1 i).1 (gi ℓ.1 i).2.1 (gi ℓ.1 i).2.2))))
/-- what is true of a listing -/
def LI (w : Wk) (ℓ : Lst) : Prop := ℓ.1.length ≤ 60 ∧ (∀ p ∈ ℓ.1, p.1 < w.1 ∧ p.2.1 ≤ 40) ∧ uSum ℓ.1 + fs ℓ.2.1 8 + fs ℓ.2.2 20 = 2 ^ 60
theorem LI.ix {w : Wk} {ℓ : Lst} (hW : WW w) (H : LI w ℓ) : IX ℓ.1 := ⟨H.1, fun p hp => ⟨Nat.lt_of_lt_of_le (H.2.1 p hp).1 hW.n, (H.2.1 p hp).2⟩, by have := H.2.2; omega⟩
theorem goS_li {w : Wk} {jn : Bool} {kind : Nat} {ℓ ℓ' : Lst} (hW : WW w) (H : LI w ℓ) (hg : goS w jn kind ℓ = some ℓ') : LI w ℓ' := by
  obtain ⟨h1, h2, h3⟩ := H
  obtain ⟨L, F, R⟩ := ℓ
  dsimp only at h1 h2 h3
  unfold goS at hg
  dsimp only at hg
  have hn := hW.n
  cases hx : nxt kind L with
  | none => rw [hx] at hg; cases hg
  | some i =>
    rw [hx] at hg
    dsimp only at hg
    have hi := nxt_lt hx
    have hm := h2 _ (gi_mem hi)
    have hu := uSum_erase L i hi
    have hE : ∀ p ∈ L.eraseIdx i, p.1 < w.1 ∧ p.2.1 ≤ 40 := fun p hp => h2 p (List.mem_of_mem_eraseIdx hp)
    have hl : (L.eraseIdx i).length = L.length - 1 := by rw [List.length_eraseIdx, if_pos hi]
    cases ho : w.2.1 (gi L i).1 with
    | some o =>
      rw [ho] at hg
      dsimp only at hg
      cases hg
      have o8 := (hW.2.2.1 _ o ho).1
      refine ⟨by dsimp only; omega, hE, ?_⟩
      dsimp only
      rw [fs_up, if_pos o8]
      omega
    | none =>
      rw [ho] at hg
      dsimp only at hg
      by_cases hd : 40 ≤ (gi L i).2.1
      · rw [if_pos hd] at hg
        cases hg
        refine ⟨by dsimp only; omega, hE, ?_⟩
        dsimp only
        rw [fs_up, if_pos (by omega)]
        omega
      · rw [if_neg hd] at hg
        by_cases hc : 60 < L.length - 1 + cnt jn L (divS w (gi L i).1 (gi L i).2.1 (gi L i).2.2)
        · rw [if_pos hc] at hg; cases hg
        · rw [if_neg hc] at hg
          cases hg
          have hM := divS_mem (m := (gi L i).2.2) hW hm.1 (by omega : (gi L i).2.1 < 40)
          have hS := divS_sum (d := (gi L i).2.1) (m := (gi L i).2.2) hW hm.1
          refine ⟨?_, pu_mem hE (fun x hx => ⟨(hM x hx).1, (hM x hx).2.1⟩), ?_⟩
          · dsimp only
            rw [pu_cnt, cnt_erase hi (fun p hp => by have := (hM p hp).2.2; omega), hl]
            omega
          · dsimp only
            rw [pu_sum, fs_up, if_pos (by omega)]
            omega

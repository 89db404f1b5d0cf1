section ZR
variable {Y : Env3} {ad : Nat → Nat} {μ : Mth} {pc npc : Nat} {ls : List (Option Value)} {st : List Value} {h : Mem}
theorem r_zF {Q : Bool → Mem → Prop} (hM : IsM Y ad (qZ Q)) (e : dk μ pc .ireturn 1 npc) (hr : μ.2.2.2.1 = some .boolean) (hq : Q false h) : G Y ad μ pc ls [.int (nI 0)] h := r_zret hM e hr hq
theorem r_zT {Q : Bool → Mem → Prop} (hM : IsM Y ad (qZ Q)) (e : dk μ pc .ireturn 1 npc) (hr : μ.2.2.2.1 = some .boolean) (hq : Q true h) : G Y ad μ pc ls [.int (nI 1)] h := r_zret hM e hr hq
end ZR
/-! what a memory holds -/
theorem si_1 (h : Mem) (a i b j : Nat) (x : Int32) : (si h a i x).1 b j = if b = a ∧ j = i then x else h.1 b j := by
  unfold si va_up upd
  by_cases hb : b = a
  · subst hb
    by_cases hj : j = i <;> simp [hj]
  · simp [hb]
theorem sl_2 (h : Mem) (a i b j : Nat) (x : Int64) : (sl h a i x).2 b j = if b = a ∧ j = i then x else h.2 b j := by
  unfold sl va_up vp_updL
  by_cases hb : b = a
  · subst hb
    by_cases hj : j = i <;> simp [hj]
  · simp [hb]
theorem sri_1 (h : Mem) (a b : Nat) (f : Nat → Int32) : (sri h a f).1 b = if b = a then f else h.1 b := rfl
theorem srl_2 (h : Mem) (a b : Nat) (f : Nat → Int64) : (srl h a f).2 b = if b = a then f else h.2 b := rfl
theorem sri_2 (h : Mem) (a : Nat) (f : Nat → Int32) : (sri h a f).2 = h.2 := rfl
theorem srl_1 (h : Mem) (a : Nat) (f : Nat → Int64) : (srl h a f).1 = h.1 := rfl
/-- the two memories are the same but at the cells P -/
def Fr (P : Nat → Prop) (h h' : Mem) : Prop := ∀ a, ¬ P a → h'.1 a = h.1 a ∧ h'.2 a = h.2 a
theorem Fr.rf {P : Nat → Prop} {h : Mem} : Fr P h h := fun _ _ => ⟨rfl, rfl⟩
theorem Fr.tr {P : Nat → Prop} {h h1 h2 : Mem} (a : Fr P h h1) (b : Fr P h1 h2) : Fr P h h2 := fun k hk => ⟨((b k hk).1).trans (a k hk).1, ((b k hk).2).trans (a k hk).2⟩
theorem Fr.mono {P P' : Nat → Prop} {h h' : Mem} (a : Fr P h h') (hp : ∀ k, P k → P' k) : Fr P' h h' := fun k hk => a k (fun q => hk (hp k q))
theorem Fr.si {P : Nat → Prop} {h : Mem} {a i : Nat} {x : Int32} (hp : P a) : Fr P h (si h a i x) := fun k hk => ⟨si_o (fun q => hk (q ▸ hp)), rfl⟩
theorem Fr.sl {P : Nat → Prop} {h : Mem} {a i : Nat} {x : Int64} (hp : P a) : Fr P h (sl h a i x) := fun k hk => ⟨rfl, sl_o (fun q => hk (q ▸ hp))⟩
theorem Fr.sri {P : Nat → Prop} {h : Mem} {a : Nat} {f : Nat → Int32} (hp : P a) : Fr P h (sri h a f) := fun k hk => ⟨sri_o (fun q => hk (q ▸ hp)), rfl⟩
theorem Fr.srl {P : Nat → Prop} {h : Mem} {a : Nat} {f : Nat → Int64} (hp : P a) : Fr P h (srl h a f) := fun k hk => ⟨rfl, srl_o (fun q => hk (q ▸ hp))⟩
/-- an item: state, depth, units -/
abbrev Itm : Type := Nat × Nat × Nat
/-- the cells a, b, c hold the items L from place o on -/
def Items (h : Mem) (a b c o : Nat) (L : List Itm) : Prop := ∀ (i : Nat) (p : Itm), L[i]? = some p → h.1 a (o + i) = nI p.1 ∧ h.1 b (o + i) = nI p.2.1 ∧ h.2 c (o + i) = lN p.2.2
/-- the cell c holds the numbers f, n of them, from place o on -/
def Nums (h : Mem) (c o n : Nat) (f : Nat → Nat) : Prop := ∀ i, i < n → h.2 c (o + i) = lN (f i)
theorem Items.cong {h h' : Mem} {a b c o : Nat} {L : List Itm} (H : Items h a b c o L) (ha : ∀ i, i < L.length → h'.1 a (o + i) = h.1 a (o + i)) (hb : ∀ i, i < L.length → h'.1 b (o + i) = h.1 b (o + i)) (hc : ∀ i, i < L.length → h'.2 c (o + i) = h.2 c (o + i)) : Items h' a b c o L := by
  intro i p hp
  have hi := (List.getElem?_eq_some_iff.mp hp).1
  rw [ha i hi, hb i hi, hc i hi]
  exact H i p hp
theorem Items.at {h : Mem} {a b c o : Nat} {L : List Itm} (H : Items h a b c o L) {i : Nat} (hi : i < L.length) : h.1 a (o + i) = nI L[i].1 ∧ h.1 b (o + i) = nI L[i].2.1 ∧ h.2 c (o + i) = lN L[i].2.2 := H i L[i] (List.getElem?_eq_getElem hi)
theorem Items.push {h h' : Mem} {a b c o : Nat} {L : List Itm} {p : Itm} (H : Items h a b c o L) (ha : ∀ i, i < L.length → h'.1 a (o + i) = h.1 a (o + i)) (hb : ∀ i, i < L.length → h'.1 b (o + i) = h.1 b (o + i)) (hc : ∀ i, i < L.length → h'.2 c (o + i) = h.2 c (o + i)) (h1 : h'.1 a (o + L.length) = nI p.1) (h2 : h'.1 b (o + L.length) = nI p.2.1) (h3 : h'.2 c (o + L.length) = lN p.2.2) : Items h' a b c o (L ++ [p]) := by
  intro i r hr
  by_cases hi : i < L.length
  · rw [List.getElem?_append_left hi] at hr
    exact (H.cong ha hb hc) i r hr
  · rw [List.getElem?_append_right (by omega)] at hr
    have h0 : i - L.length < 1 := (List.getElem?_eq_some_iff.mp hr).1
    have h9 : i = L.length := by omega
    subst h9
    rw [Nat.sub_self] at hr
    cases hr
    exact ⟨h1, h2, h3⟩
theorem Items.erase {h h' : Mem} {a b c o k : Nat} {L : List Itm} (H : Items h a b c o L) (ha : ∀ i, i < L.length - 1 → h'.1 a (o + i) = if i < k then h.1 a (o + i) else h.1 a (o + i + 1)) (hb : ∀ i, i < L.length - 1 → h'.1 b (o + i) = if i < k then h.1 b (o + i) else h.1 b (o + i + 1)) (hc : ∀ i, i < L.length - 1 → h'.2 c (o + i) = if i < k then h.2 c (o + i) else h.2 c (o + i + 1)) (hk : k < L.length) : Items h' a b c o (L.eraseIdx k) := by
  intro i r hr
  have hi := (List.getElem?_eq_some_iff.mp hr).1
  rw [List.length_eraseIdx, if_pos hk] at hi
  rw [List.getElem?_eraseIdx] at hr
  rw [ha i hi, hb i hi, hc i hi]
  by_cases q : i < k
  · rw [if_pos q] at hr
    rw [if_pos q, if_pos q, if_pos q]
    exact H i r hr
  · rw [if_neg q] at hr
    rw [if_neg q, if_neg q, if_neg q]
    exact H (i + 1) r hr
theorem Items.put {h h' : Mem} {a b c o k m : Nat} {L : List Itm} (H : Items h a b c o L) (hk : k < L.length) (ha : ∀ i, i < L.length → h'.1 a (o + i) = h.1 a (o + i)) (hb : ∀ i, i < L.length → h'.1 b (o + i) = h.1 b (o + i)) (hc : ∀ i, i < L.length → i ≠ k → h'.2 c (o + i) = h.2 c (o + i)) (h3 : h'.2 c (o + k) = lN m) : Items h' a b c o (L.set k (L[k].1, L[k].2.1, m)) := by
  intro i r hr
  have hi := (List.getElem?_eq_some_iff.mp hr).1
  rw [List.length_set] at hi
  by_cases q : i = k
  · subst q
    rw [List.getElem?_set_self hk] at hr
    cases hr
    exact ⟨(ha i hk).trans (H.at hk).1, (hb i hk).trans (H.at hk).2.1, h3⟩
  · rw [List.getElem?_set_ne (Ne.symm q)] at hr
    rw [ha i hi, hb i hi, hc i hi q]
    exact H i r hr
/-- the units of a state that are open -/
def opAt (L : List Itm) (s : Nat) : Nat := (L.map (fun p => if p.1 = s then p.2.2 else 0)).sum
theorem opAt_push (L : List Itm) (p : Itm) (s : Nat) : opAt (L ++ [p]) s = opAt L s + if p.1 = s then p.2.2 else 0 := by simp [opAt]
theorem opAt_erase (s : Nat) : ∀ (L : List Itm) (k : Nat) (hk : k < L.length), opAt L s = opAt (L.eraseIdx k) s + if L[k].1 = s then L[k].2.2 else 0
  | [], k, hk => by simp at hk
  | p :: L, 0, hk => by simp [opAt]; omega
  | p :: L, k + 1, hk => by
    have ih := opAt_erase s L k (by simpa using hk)
    simp only [opAt, List.map_cons, List.sum_cons, List.eraseIdx_cons_succ, List.getElem_cons_succ] at ih ⊢
    omega
theorem opAt_set (s m : Nat) : ∀ (L : List Itm) (k : Nat) (hk : k < L.length), opAt (L.set k (L[k].1, L[k].2.1, L[k].2.2 + m)) s = opAt L s + if L[k].1 = s then m else 0
  | [], k, hk => by simp at hk
  | p :: L, 0, hk => by
    simp only [opAt, List.set_cons_zero, List.map_cons, List.sum_cons, List.getElem_cons_zero]
    split <;> omega
  | p :: L, k + 1, hk => by
    have ih := opAt_set s m L k (by simpa using hk)
    simp only [opAt, List.map_cons, List.sum_cons, List.set_cons_succ, List.getElem_cons_succ] at ih ⊢
    omega
theorem nI_split {x : Int32} {n : Nat} (h0 : ¬ x < 0) (h : ¬ nI n ≤ x) (hn : n < 2147483648) : ∃ j : Nat, j < n ∧ x = nI j := by
  obtain ⟨j, h1, h2, -⟩ := pk_mu h0 h (by omega)
  exact ⟨j, h1, h2⟩
theorem nI_neg {x : Int32} (h : x < 0) (j : Nat) (hj : j < 2147483648) : x ≠ nI j := fun q => by rw [q] at h; exact nI_pos (by omega) h
theorem nI_big {x : Int32} {n : Nat} (h : nI n ≤ x) (j : Nat) (hj : j < n) (hn : n < 2147483648) : x ≠ nI j := fun q => by rw [q] at h; exact nI_ge hj (by omega) h

theorem wCp : dW (.native arraycopyName) ∧ dW (.static arraycopyName) ∧ dW (.initialized "java/lang/System") := ⟨by unfold dW; decide +kernel, by unfold dW; decide +kernel, by unfold dW; decide +kernel⟩
theorem wMn : dW (.static Lib.Math.min.name) ∧ dW (.initialized "java/lang/Math") ∧ dW (.code Lib.Math.min.name Lib.Math.min.code 2 (some .int)) := ⟨by unfold dW; decide +kernel, by unfold dW; decide +kernel, by unfold dW; decide +kernel⟩
section MISC
variable {Y : Env3} {ad : Nat → Nat} {μ : Mth} {pc npc : Nat} {ls : List (Option Value)} {st : List Value} {h : Mem}
theorem r_cpI {a0 a n0 n1 sp dp n : Nat} {f0 f1 : Nat → Option Nat} (e : dCp μ pc npc) (hs0 : shTab[a0]? = some (.inl (0, n0, f0))) (hs1 : shTab[a]? = some (.inl (0, n1, f1))) (h4 : sp + n ≤ n0) (h5 : dp + n ≤ n1) (kk : G Y ad μ npc ls st (sri h a (va_cpy (h.1 a0) (h.1 a) sp dp n))) (hst : (st.map fun v => v.category).sum ≤ 8 := by exact Nat.le_of_ble_eq_true rfl) : G Y ad μ pc ls (.int (nI n) :: .int (nI dp) :: .ref (ad a) :: .int (nI sp) :: .ref (ad a0) :: st) h := by
  intro C H locs lsc hH hl
  obtain ⟨ix, hd, rfl, hw, hr1, hr2⟩ := e
  have b0 := shLen hs0
  have b1 := shLen hs1
  have e1 : (nI sp).toNatClampNeg = sp := nI_clamp (by omega)
  have e2 : (nI dp).toNatClampNeg = dp := nI_clamp (by omega)
  have e3 : (nI n).toNatClampNeg = n := nI_clamp (by omega)
  have hu : (pic ad Y.2.1.2 h).set a (ad a, .inl (Y.2.1.2 0, n1, .inl (va_cpy (h.1 a0) (h.1 a) sp dp n))) = pic ad Y.2.1.2 (sri h a (va_cpy (h.1 a0) (h.1 a) sp dp n)) := pic_upd hs1 (by show Sum.inl (Y.2.1.2 0, n1, Sum.inl ((sri h a _).1 a)) = _; rw [sri_row]) (fun i hi => ⟨sri_o hi, rfl⟩)
  refine va_copyi C.1 C.2.1 (C.2.2.2.1.trans hl.1.symm) C.2.2.2.2.1 (C.2.2.2.2.2.1 _ (gW hw rfl)) (C.2.2.2.2.2.1 _ (gW wCp.1 rfl)) (C.2.2.2.2.2.1 _ (gW wCp.2.1 rfl)) (C.2.2.2.2.2.1 _ (gW wCp.2.2 rfl)) C.2.2.2.2.2.2.2.1 hH.1 hH.2.1 hH.2.2 a0 a 0 0 (pic_at hs0) (pic_at hs1) rfl rfl rfl (nI_pos (by omega)) (nI_pos (by omega)) (nI_pos (by omega)) (by rw [e1, e3]; exact h4) (by rw [e2, e3]; exact h5) (fun _ _ => rfl) (by rw [C.2.2.2.2.2.2.2.2.2.1]; exact hr1) (by rw [C.2.2.2.2.2.2.2.2.2.2.1]; omega) hd (fun H1 locs1 hP1 hD1 hS1 => ?_)
  rw [e1, e2, e3, hu] at hP1 hD1
  exact kk C H1 locs1 lsc ⟨hP1, hD1, hS1⟩ hl
theorem r_cpL {a0 a n0 n1 sp dp n : Nat} {f0 f1 : Nat → Option Nat} (e : dCp μ pc npc) (hs0 : shTab[a0]? = some (.inl (1, n0, f0))) (hs1 : shTab[a]? = some (.inl (1, n1, f1))) (h4 : sp + n ≤ n0) (h5 : dp + n ≤ n1) (kk : G Y ad μ npc ls st (srl h a (va_cpy (h.2 a0) (h.2 a) sp dp n))) (hst : (st.map fun v => v.category).sum ≤ 8 := by exact Nat.le_of_ble_eq_true rfl) : G Y ad μ pc ls (.int (nI n) :: .int (nI dp) :: .ref (ad a) :: .int (nI sp) :: .ref (ad a0) :: st) h := by
  intro C H locs lsc hH hl
  obtain ⟨ix, hd, rfl, hw, hr1, hr2⟩ := e
  have b0 := shLen hs0
  have b1 := shLen hs1
  have e1 : (nI sp).toNatClampNeg = sp := nI_clamp (by omega)
  have e2 : (nI dp).toNatClampNeg = dp := nI_clamp (by omega)
  have e3 : (nI n).toNatClampNeg = n := nI_clamp (by omega)
  have hu : (pic ad Y.2.1.2 h).set a (ad a, .inl (Y.2.1.2 1, n1, .inr (.inl (va_cpy (h.2 a0) (h.2 a) sp dp n)))) = pic ad Y.2.1.2 (srl h a (va_cpy (h.2 a0) (h.2 a) sp dp n)) := pic_upd hs1 (by show Sum.inl (Y.2.1.2 1, n1, Sum.inr (Sum.inl ((srl h a _).2 a))) = _; rw [srl_row]) (fun i hi => ⟨rfl, srl_o hi⟩)
  refine va_copyl C.1 C.2.1 (C.2.2.2.1.trans hl.1.symm) C.2.2.2.2.1 (C.2.2.2.2.2.1 _ (gW hw rfl)) (C.2.2.2.2.2.1 _ (gW wCp.1 rfl)) (C.2.2.2.2.2.1 _ (gW wCp.2.1 rfl)) (C.2.2.2.2.2.1 _ (gW wCp.2.2 rfl)) C.2.2.2.2.2.2.2.1 hH.1 hH.2.1 hH.2.2 a0 a 1 1 (pic_at hs0) (pic_at hs1) rfl rfl rfl (nI_pos (by omega)) (nI_pos (by omega)) (nI_pos (by omega)) (by rw [e1, e3]; exact h4) (by rw [e2, e3]; exact h5) (fun _ _ => rfl) (by rw [C.2.2.2.2.2.2.2.2.2.1]; exact hr1) (by rw [C.2.2.2.2.2.2.2.2.2.2.1]; omega) hd (fun H1 locs1 hP1 hD1 hS1 => ?_)
  rw [e1, e2, e3, hu] at hP1 hD1
  exact kk C H1 locs1 lsc ⟨hP1, hD1, hS1⟩ hl
theorem r_min {a b : Nat} (e : dMn μ pc npc) (ha : a < 2147483648) (hb : b < 2147483648) (kk : G Y ad μ npc ls (.int (nI (min a b)) :: st) h) (hst : (st.map fun v => v.category).sum ≤ 8 := by exact Nat.le_of_ble_eq_true rfl) : G Y ad μ pc ls (.int (nI b) :: .int (nI a) :: st) h := by
  intro C H locs lsc hH hl
  obtain ⟨ix, hd, rfl, hw, hr1, hr2⟩ := e
  refine va_mmin C.1 C.2.1 (C.2.2.2.1.trans hl.1.symm) C.2.2.2.2.1 (C.2.2.2.2.2.1 _ (gW hw rfl)) (C.2.2.2.2.2.1 _ (gW wMn.1 rfl)) (C.2.2.2.2.2.1 _ (gW wMn.2.1 rfl)) (C.2.2.2.2.2.1 _ (gW wMn.2.2 rfl)) (by rw [C.2.2.2.2.2.2.2.2.2.1]; exact hr1) (by rw [C.2.2.2.2.2.2.2.2.2.2.1]; omega) C.2.2.2.2.2.2.2.2.2.2.2.1 C.2.2.2.2.2.2.2.2.2.2.2.2 hd ?_
  have hm : (if nI b < nI a then nI b else nI a) = nI (min a b) := by
    by_cases q : b < a
    · rw [if_pos ((nI_ltI hb ha).mpr q), Nat.min_eq_right (Nat.le_of_lt q)]
    · rw [if_neg (fun z => q ((nI_ltI hb ha).mp z)), Nat.min_eq_left (Nat.le_of_not_lt q)]
  rw [hm]
  exact kk C H locs lsc hH hl
/-! with the value told -/
theorem r_gI {k ci j : Nat} {fs : List (Nat ⊕ Bool)} {v : Int32} (e : dG μ pc ci j npc) (hs : shTab[k]? = some (.inr (ci, fs))) (hf : fs[j]? = some (.inr false)) (hv : h.1 k j = v) (kk : G Y ad μ npc ls (.int v :: st) h) : G Y ad μ pc ls (.ref (ad k) :: st) h := r_getI e hs hf (by rw [hv]; exact kk)
theorem r_gL {k ci j : Nat} {fs : List (Nat ⊕ Bool)} {v : Int64} (e : dG μ pc ci j npc) (hs : shTab[k]? = some (.inr (ci, fs))) (hf : fs[j]? = some (.inr true)) (hv : h.2 k j = v) (kk : G Y ad μ npc ls (.long v :: st) h) : G Y ad μ pc ls (.ref (ad k) :: st) h := r_getL e hs hf (by rw [hv]; exact kk)
theorem r_xI {a n j : Nat} {f : Nat → Option Nat} {v : Int32} (e : dk μ pc .iaload 1 npc) (hs : shTab[a]? = some (.inl (0, n, f))) (hj : j < n) (hv : h.1 a j = v) (kk : G Y ad μ npc ls (.int v :: st) h) : G Y ad μ pc ls (.int (nI j) :: .ref (ad a) :: st) h := r_iald e hs hj (by rw [hv]; exact kk)
theorem r_xZ {a n j : Nat} {f : Nat → Option Nat} {v : Int32} (e : dk μ pc .baload 1 npc) (hs : shTab[a]? = some (.inl (2, n, f))) (hj : j < n) (hv : h.1 a j = v) (kk : G Y ad μ npc ls (.int v :: st) h) : G Y ad μ pc ls (.int (nI j) :: .ref (ad a) :: st) h := r_zald e hs hj (by rw [hv]; exact kk)
theorem r_xL {a n j : Nat} {f : Nat → Option Nat} {v : Int64} (e : dk μ pc .laload 1 npc) (hs : shTab[a]? = some (.inl (1, n, f))) (hj : j < n) (hv : h.2 a j = v) (kk : G Y ad μ npc ls (.long v :: st) h) : G Y ad μ pc ls (.int (nI j) :: .ref (ad a) :: st) h := r_lald e hs hj (by rw [hv]; exact kk)
/-- another name for a number on the stack -/
theorem r_ti {x v : Int32} (hv : x = v) (k : G Y ad μ pc ls (.int v :: st) h) : G Y ad μ pc ls (.int x :: st) h := by rw [hv]; exact k
theorem r_tl {x v : Int64} (hv : x = v) (k : G Y ad μ pc ls (.long v :: st) h) : G Y ad μ pc ls (.long x :: st) h := by rw [hv]; exact k
end MISC

def IsL (q : Nat) : Prop := shTab[q]? = some (.inr (0, [.inr false, .inr false, .inr false, .inl (q + 1), .inl (q + 2), .inl (q + 3), .inl (q + 4), .inl (q + 5), .inl (q + 6)])) ∧ shTab[q + 1]? = some (shI 60) ∧ shTab[q + 2]? = some (shI 60) ∧ shTab[q + 3]? = some (shJ 60) ∧ shTab[q + 4]? = some (shJ 8) ∧ shTab[q + 5]? = some (shJ 20) ∧ shTab[q + 6]? = some (shJ 20)
theorem isL55 : IsL 55 := ⟨rfl, rfl, rfl, rfl, rfl, rfl, rfl⟩
theorem isL62 : IsL 62 := ⟨rfl, rfl, rfl, rfl, rfl, rfl, rfl⟩
theorem isL70 : IsL 70 := ⟨rfl, rfl, rfl, rfl, rfl, rfl, rfl⟩
theorem isL77 : IsL 77 := ⟨rfl, rfl, rfl, rfl, rfl, rfl, rfl⟩
theorem isL84 : IsL 84 := ⟨rfl, rfl, rfl, rfl, rfl, rfl, rfl⟩
theorem shT : ∀ s, s < 20 → (shTab[7 + s]? = some (shI 16)) := by
  intro s hs
  rcases (by omega : s = 0 ∨ s = 1 ∨ s = 2 ∨ s = 3 ∨ s = 4 ∨ s = 5 ∨ s = 6 ∨ s = 7 ∨ s = 8 ∨ s = 9 ∨ s = 10 ∨ s = 11 ∨ s = 12 ∨ s = 13 ∨ s = 14 ∨ s = 15 ∨ s = 16 ∨ s = 17 ∨ s = 18 ∨ s = 19) with rfl | rfl | rfl | rfl | rfl | rfl | rfl | rfl | rfl | rfl | rfl | rfl | rfl | rfl | rfl | rfl | rfl | rfl | rfl | rfl <;> rfl
theorem shW : ∀ s, s < 20 → (shTab[28 + s]? = some (shI 16)) := by
  intro s hs
  rcases (by omega : s = 0 ∨ s = 1 ∨ s = 2 ∨ s = 3 ∨ s = 4 ∨ s = 5 ∨ s = 6 ∨ s = 7 ∨ s = 8 ∨ s = 9 ∨ s = 10 ∨ s = 11 ∨ s = 12 ∨ s = 13 ∨ s = 14 ∨ s = 15 ∨ s = 16 ∨ s = 17 ∨ s = 18 ∨ s = 19) with rfl | rfl | rfl | rfl | rfl | rfl | rfl | rfl | rfl | rfl | rfl | rfl | rfl | rfl | rfl | rfl | rfl | rfl | rfl | rfl <;> rfl

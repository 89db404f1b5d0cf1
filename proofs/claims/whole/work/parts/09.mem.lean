theorem clR_ok {ci j : Nat} (hj : j < (clR ci).2.2) : vwCl[ci]? = some (clR ci) := by
  unfold clR at hj ⊢
  rw [List.getD_eq_getElem?_getD] at hj ⊢
  cases h : vwCl[ci]? with
  | none => rw [h] at hj; exact absurd hj (Nat.not_lt_zero _)
  | some r => rfl
theorem in0 : ∀ w ∈ u_ws RX0 TX0 9, w ∈ gT := by decide +kernel
theorem in1 : ∀ w ∈ u_ws RX1 TX1 7, w ∈ gT := by decide +kernel
theorem in2 : ∀ w ∈ u_ws RX2 TX2 10, w ∈ gT := by decide +kernel
theorem in3 : ∀ w ∈ u_ws RX3 TX3 7, w ∈ gT := by decide +kernel
theorem in4 : ∀ w ∈ u_ws RX4 TX4 25, w ∈ gT := by decide +kernel
theorem inAll {ci : Nat} {r : vw_C} (h : vwCl[ci]? = some r) : ∀ w ∈ u_ws r.1 r.2.1 r.2.2, w ∈ gT := by
  match ci, h with
  | 0, h => cases h; exact in0
  | 1, h => cases h; exact in1
  | 2, h => cases h; exact in2
  | 3, h => cases h; exact in3
  | 4, h => cases h; exact in4
  | k + 5, h => simp [vwCl] at h
theorem nm0 : ∀ a, a < 9 → ∀ b, b < 9 → a ≠ b → (TX0 a).2.1 ≠ (TX0 b).2.1 := by decide +kernel
theorem nm1 : ∀ a, a < 7 → ∀ b, b < 7 → a ≠ b → (TX1 a).2.1 ≠ (TX1 b).2.1 := by decide +kernel
theorem nm2 : ∀ a, a < 10 → ∀ b, b < 10 → a ≠ b → (TX2 a).2.1 ≠ (TX2 b).2.1 := by decide +kernel
theorem nm3 : ∀ a, a < 7 → ∀ b, b < 7 → a ≠ b → (TX3 a).2.1 ≠ (TX3 b).2.1 := by decide +kernel
theorem nm4 : ∀ a, a < 25 → ∀ b, b < 25 → a ≠ b → (TX4 a).2.1 ≠ (TX4 b).2.1 := by decide +kernel
theorem nmAll {ci : Nat} {r : vw_C} (h : vwCl[ci]? = some r) : ∀ a, a < r.2.2 → ∀ b, b < r.2.2 → a ≠ b → (r.2.1 a).2.1 ≠ (r.2.1 b).2.1 := by
  match ci, h with
  | 0, h => cases h; exact nm0
  | 1, h => cases h; exact nm1
  | 2, h => cases h; exact nm2
  | 3, h => cases h; exact nm3
  | 4, h => cases h; exact nm4
  | k + 5, h => simp [vwCl] at h
theorem ty0 : ∀ k, k < 9 → parseFieldDescriptor (TX0 k).2.2.1 = some (tyX0 k) := by decide +kernel
theorem ty1 : ∀ k, k < 7 → parseFieldDescriptor (TX1 k).2.2.1 = some (tyX1 k) := by decide +kernel
theorem ty2 : ∀ k, k < 10 → parseFieldDescriptor (TX2 k).2.2.1 = some (tyX2 k) := by decide +kernel
theorem ty3 : ∀ k, k < 7 → parseFieldDescriptor (TX3 k).2.2.1 = some (tyX3 k) := by decide +kernel
theorem ty4 : ∀ k, k < 25 → parseFieldDescriptor (TX4 k).2.2.1 = some (tyX4 k) := by decide +kernel
theorem tyAll {ci : Nat} {r : vw_C} (h : vwCl[ci]? = some r) : ∃ ty : Nat → FieldType, ∀ k, k < r.2.2 → parseFieldDescriptor (r.2.1 k).2.2.1 = some (ty k) := by
  match ci, h with
  | 0, h => cases h; exact ⟨_, ty0⟩
  | 1, h => cases h; exact ⟨_, ty1⟩
  | 2, h => cases h; exact ⟨_, ty2⟩
  | 3, h => cases h; exact ⟨_, ty3⟩
  | 4, h => cases h; exact ⟨_, ty4⟩
  | k + 5, h => simp [vwCl] at h
def lenOk (S : Shp) : Bool := match S with
  | .inl (_, n, _) => decide (n < 401)
  | .inr _ => true
theorem lenAll : shTab.all lenOk = true := by decide +kernel
theorem shLen {a t n : Nat} {f : Nat → Option Nat} (hs : shTab[a]? = some (.inl (t, n, f))) : n < 401 := by
  have := List.all_eq_true.mp lenAll _ (List.mem_of_getElem? hs)
  simpa [lenOk] using this
theorem nI_cl {j n : Nat} (hj : j < n) (hn : n < 401) : vp_in (nI j) n ∧ (nI j).toNatClampNeg = j := ⟨vp_in_nI hj (by omega), nI_clamp (by omega)⟩
section MEM
variable {Y : Env3} {ad : Nat → Nat} {μ : Mth} {pc npc : Nat} {ls : List (Option Value)} {st : List Value} {h : Mem}
theorem r_getI {k ci j : Nat} {fs : List (Nat ⊕ Bool)} (e : dG μ pc ci j npc) (hs : shTab[k]? = some (.inr (ci, fs))) (hf : fs[j]? = some (.inr false)) (kk : G Y ad μ npc ls (.int (h.1 k j) :: st) h) : G Y ad μ pc ls (.ref (ad k) :: st) h := by
  intro C H locs lsc hH hl
  obtain ⟨ix, hd, rfl, hw, hj⟩ := e
  have hc := clR_ok hj
  exact va_get C.1 C.2.1 C.2.2.2.2.2.1 (inAll hc) C.2.2.2.2.1 C.2.2.2.2.2.2.2.1 hH.1 k (pic_at hs) hc j hj (C.2.2.2.2.2.1 _ (gW hw rfl)) (fun x q => q) (by rw [fvals_get, hf]; simp) hd (kk C H locs lsc hH hl)
theorem r_getL {k ci j : Nat} {fs : List (Nat ⊕ Bool)} (e : dG μ pc ci j npc) (hs : shTab[k]? = some (.inr (ci, fs))) (hf : fs[j]? = some (.inr true)) (kk : G Y ad μ npc ls (.long (h.2 k j) :: st) h) : G Y ad μ pc ls (.ref (ad k) :: st) h := by
  intro C H locs lsc hH hl
  obtain ⟨ix, hd, rfl, hw, hj⟩ := e
  have hc := clR_ok hj
  exact va_get C.1 C.2.1 C.2.2.2.2.2.1 (inAll hc) C.2.2.2.2.1 C.2.2.2.2.2.2.2.1 hH.1 k (pic_at hs) hc j hj (C.2.2.2.2.2.1 _ (gW hw rfl)) (fun x q => q) (by rw [fvals_get, hf]; simp) hd (kk C H locs lsc hH hl)
theorem r_getR {k ci j r : Nat} {fs : List (Nat ⊕ Bool)} (e : dG μ pc ci j npc) (hs : shTab[k]? = some (.inr (ci, fs))) (hf : fs[j]? = some (.inl r)) (kk : G Y ad μ npc ls (.ref (ad r) :: st) h) : G Y ad μ pc ls (.ref (ad k) :: st) h := by
  intro C H locs lsc hH hl
  obtain ⟨ix, hd, rfl, hw, hj⟩ := e
  have hc := clR_ok hj
  exact va_get C.1 C.2.1 C.2.2.2.2.2.1 (inAll hc) C.2.2.2.2.1 C.2.2.2.2.2.2.2.1 hH.1 k (pic_at hs) hc j hj (C.2.2.2.2.2.1 _ (gW hw rfl)) (fun x q => q) (by rw [fvals_get, hf]; simp) hd (kk C H locs lsc hH hl)
theorem r_putI0 {k ci j : Nat} {fs : List (Nat ⊕ Bool)} {x : Int32} {ty : FieldType} (e : dP μ pc ci j npc) (hs : shTab[k]? = some (.inr (ci, fs))) (hf : fs[j]? = some (.inr false)) (hfin : ((clR ci).2.1 j).2.2.2 = false) (hd0 : parseFieldDescriptor ((clR ci).2.1 j).2.2.1 = some ty) (hn : narrow ty (.int x) = .int x) (hfit : fits ty (.int x) = true) (kk : G Y ad μ npc ls st (si h k j x)) : G Y ad μ pc ls (.int x :: .ref (ad k) :: st) h := by
  intro C H locs lsc hH hl
  obtain ⟨ix, hd, rfl, hw, hj⟩ := e
  have hc := clR_ok hj
  obtain ⟨ty0, hty0⟩ := tyAll hc
  have hu : (pic ad Y.2.1.2 h).set k (ad k, .inr (ci, (fvals ad h k 0 fs).set j (.int x))) = pic ad Y.2.1.2 (si h k j x) := pic_upd hs (by show Sum.inr (ci, fvals ad (si h k j x) k 0 fs) = _; rw [fvals_setI hf]) (fun i hi => ⟨si_o hi, rfl⟩)
  refine va_put C.1 C.2.1 C.2.2.2.2.2.1 (inAll hc) ty0 hty0 (nmAll hc) C.2.2.2.2.1 C.2.2.2.2.2.2.2.1 hH.1 hH.2.1 hH.2.2 k (pic_at hs) hc j hj (C.2.2.2.2.2.1 _ (gW hw rfl)) (fun x q => q) hfin hd0 hn hfit (by rw [fvals_len]; exact (List.getElem?_eq_some_iff.mp hf).1) hd (fun H1 locs1 hP1 hD1 hS1 => ?_)
  rw [hu] at hP1 hD1
  exact kk C H1 locs1 lsc ⟨hP1, hD1, hS1⟩ hl
theorem r_putL0 {k ci j : Nat} {fs : List (Nat ⊕ Bool)} {x : Int64} (e : dP μ pc ci j npc) (hs : shTab[k]? = some (.inr (ci, fs))) (hf : fs[j]? = some (.inr true)) (hfin : ((clR ci).2.1 j).2.2.2 = false) (hd0 : parseFieldDescriptor ((clR ci).2.1 j).2.2.1 = some .long) (kk : G Y ad μ npc ls st (sl h k j x)) : G Y ad μ pc ls (.long x :: .ref (ad k) :: st) h := by
  intro C H locs lsc hH hl
  obtain ⟨ix, hd, rfl, hw, hj⟩ := e
  have hc := clR_ok hj
  obtain ⟨ty0, hty0⟩ := tyAll hc
  have hu : (pic ad Y.2.1.2 h).set k (ad k, .inr (ci, (fvals ad h k 0 fs).set j (.long x))) = pic ad Y.2.1.2 (sl h k j x) := pic_upd hs (by show Sum.inr (ci, fvals ad (sl h k j x) k 0 fs) = _; rw [fvals_setL hf]) (fun i hi => ⟨rfl, sl_o hi⟩)
  refine va_put C.1 C.2.1 C.2.2.2.2.2.1 (inAll hc) ty0 hty0 (nmAll hc) C.2.2.2.2.1 C.2.2.2.2.2.2.2.1 hH.1 hH.2.1 hH.2.2 k (pic_at hs) hc j hj (C.2.2.2.2.2.1 _ (gW hw rfl)) (fun x q => q) hfin hd0 rfl rfl (by rw [fvals_len]; exact (List.getElem?_eq_some_iff.mp hf).1) hd (fun H1 locs1 hP1 hD1 hS1 => ?_)
  rw [hu] at hP1 hD1
  exact kk C H1 locs1 lsc ⟨hP1, hD1, hS1⟩ hl
theorem bI_nar (b : Bool) : narrow .boolean (.int (bI b)) = .int (bI b) := by cases b <;> decide +kernel
theorem bI_fit (b : Bool) : fits .boolean (.int (bI b)) = true := by cases b <;> decide +kernel
theorem bI_vp (b : Bool) : vp_nar .boolean (bI b) = bI b := by cases b <;> decide +kernel
theorem r_putI {k ci j : Nat} {fs : List (Nat ⊕ Bool)} {x : Int32} (e : dP μ pc ci j npc) (hs : shTab[k]? = some (.inr (ci, fs))) (hf : fs[j]? = some (.inr false)) (hd : ((clR ci).2.1 j).2.2 = ("I", false)) (kk : G Y ad μ npc ls st (si h k j x)) : G Y ad μ pc ls (.int x :: .ref (ad k) :: st) h :=
  r_putI0 (ty := .int) e hs hf (by rw [hd]) (by rw [hd]; decide +kernel) rfl rfl kk
theorem r_putZ {k ci j : Nat} {fs : List (Nat ⊕ Bool)} {b : Bool} (e : dP μ pc ci j npc) (hs : shTab[k]? = some (.inr (ci, fs))) (hf : fs[j]? = some (.inr false)) (hd : ((clR ci).2.1 j).2.2 = ("Z", false)) (kk : G Y ad μ npc ls st (si h k j (bI b))) : G Y ad μ pc ls (.int (bI b) :: .ref (ad k) :: st) h :=
  r_putI0 (ty := .boolean) e hs hf (by rw [hd]) (by rw [hd]; decide +kernel) (bI_nar b) (bI_fit b) kk
theorem r_putL {k ci j : Nat} {fs : List (Nat ⊕ Bool)} {x : Int64} (e : dP μ pc ci j npc) (hs : shTab[k]? = some (.inr (ci, fs))) (hf : fs[j]? = some (.inr true)) (hd : ((clR ci).2.1 j).2.2 = ("J", false)) (kk : G Y ad μ npc ls st (sl h k j x)) : G Y ad μ pc ls (.long x :: .ref (ad k) :: st) h :=
  r_putL0 e hs hf (by rw [hd]) (by rw [hd]; decide +kernel) kk
/-! arrays -/
theorem r_iald {a n j : Nat} {f : Nat → Option Nat} (e : dk μ pc .iaload 1 npc) (hs : shTab[a]? = some (.inl (0, n, f))) (hj : j < n) (kk : G Y ad μ npc ls (.int (h.1 a j) :: st) h) : G Y ad μ pc ls (.int (nI j) :: .ref (ad a) :: st) h := by
  intro C H locs lsc hH hl
  obtain ⟨hd, rfl⟩ := e
  obtain ⟨h1, h2⟩ := nI_cl hj (shLen hs)
  exact va_iald C.1 C.2.1 C.2.2.2.2.2.2.2.1 hH.1 a 0 (pic_at hs) rfl h1 hd (by rw [h2]; exact kk C H locs lsc hH hl)
theorem r_zald {a n j : Nat} {f : Nat → Option Nat} (e : dk μ pc .baload 1 npc) (hs : shTab[a]? = some (.inl (2, n, f))) (hj : j < n) (kk : G Y ad μ npc ls (.int (h.1 a j) :: st) h) : G Y ad μ pc ls (.int (nI j) :: .ref (ad a) :: st) h := by
  intro C H locs lsc hH hl
  obtain ⟨hd, rfl⟩ := e
  obtain ⟨h1, h2⟩ := nI_cl hj (shLen hs)
  exact va_zald C.1 C.2.1 C.2.2.2.2.2.2.2.1 hH.1 a 2 (pic_at hs) rfl h1 hd (by rw [h2]; exact kk C H locs lsc hH hl)
theorem r_lald {a n j : Nat} {f : Nat → Option Nat} (e : dk μ pc .laload 1 npc) (hs : shTab[a]? = some (.inl (1, n, f))) (hj : j < n) (kk : G Y ad μ npc ls (.long (h.2 a j) :: st) h) : G Y ad μ pc ls (.int (nI j) :: .ref (ad a) :: st) h := by
  intro C H locs lsc hH hl
  obtain ⟨hd, rfl⟩ := e
  obtain ⟨h1, h2⟩ := nI_cl hj (shLen hs)
  exact va_lald C.1 C.2.1 C.2.2.2.2.2.2.2.1 hH.1 a 1 (pic_at hs) rfl h1 hd (by rw [h2]; exact kk C H locs lsc hH hl)
theorem r_aald0 {a n j t r : Nat} {ty : FieldType} {f : Nat → Option Nat} (e : dk μ pc .aaload 1 npc) (hs : shTab[a]? = some (.inl (t, n, f))) (ht : (tysOf Y.2.1.2)[t]? = some (Y.2.1.2 t, ty)) (hty : ty.isReference = true) (har : ∀ h : Mem, arrOf ad h a t f = .inr (.inr (.inr (.inr (fun j => (f j).map ad))))) (hj : j < n) (hr : f j = some r) (kk : G Y ad μ npc ls (.ref (ad r) :: st) h) : G Y ad μ pc ls (.int (nI j) :: .ref (ad a) :: st) h := by
  intro C H locs lsc hH hl
  obtain ⟨hd, rfl⟩ := e
  obtain ⟨h1, h2⟩ := nI_cl hj (shLen hs)
  have hp := hH.1 a _ (pic_at hs)
  have hc : H[ad a]? = some (vp_cell (Y.2.1.2 t) (n, .inr (.inr (.inr (.inr (fun j => (f j).map ad)))))) := by
    have h3 : H[ad a]? = some (vp_cell (Y.2.1.2 t) (n, arrOf ad h a t f)) := hp
    rw [har] at h3
    exact h3
  refine W.aald (v := .ref (ad r)) (ty := ty) C.1 C.2.1 hc ((C.2.2.2.2.2.2.2.1.2 t _ ht).1 n (fun j => va_rf ((f j).map ad))) hty (fun q => by cases q) (by show ¬ (nI j < 0 ∨ (arrV _ _ _).slots.size ≤ _); rw [arrV_size]; exact h1) ?_ rfl rfl hd (kk C H locs lsc hH hl)
  show (arrV _ _ _).slots[_]? = _
  rw [h2, arrV_read _ _ hj]
  dsimp only
  rw [hr]
  rfl
theorem r_aaldL {a n j r : Nat} {f : Nat → Option Nat} (e : dk μ pc .aaload 1 npc) (hs : shTab[a]? = some (.inl (3, n, f))) (hj : j < n) (hr : f j = some r) (kk : G Y ad μ npc ls (.ref (ad r) :: st) h) : G Y ad μ pc ls (.int (nI j) :: .ref (ad a) :: st) h := r_aald0 e hs rfl rfl (fun _ => rfl) hj hr kk
theorem r_aaldI {a n j r : Nat} {f : Nat → Option Nat} (e : dk μ pc .aaload 1 npc) (hs : shTab[a]? = some (.inl (4, n, f))) (hj : j < n) (hr : f j = some r) (kk : G Y ad μ npc ls (.ref (ad r) :: st) h) : G Y ad μ pc ls (.int (nI j) :: .ref (ad a) :: st) h := r_aald0 e hs rfl rfl (fun _ => rfl) hj hr kk
theorem r_iast {a n j : Nat} {x : Int32} {f : Nat → Option Nat} (e : dk μ pc .iastore 1 npc) (hs : shTab[a]? = some (.inl (0, n, f))) (hj : j < n) (kk : G Y ad μ npc ls st (si h a j x)) : G Y ad μ pc ls (.int x :: .int (nI j) :: .ref (ad a) :: st) h := by
  intro C H locs lsc hH hl
  obtain ⟨hd, rfl⟩ := e
  obtain ⟨h1, h2⟩ := nI_cl hj (shLen hs)
  have hu : (pic ad Y.2.1.2 h).set a (ad a, .inl (Y.2.1.2 0, n, .inl (upd (h.1 a) j x))) = pic ad Y.2.1.2 (si h a j x) := pic_upd hs (by show Sum.inl (Y.2.1.2 0, n, Sum.inl ((si h a j x).1 a)) = _; rw [si_row]) (fun i hi => ⟨si_o hi, rfl⟩)
  refine va_iast C.1 C.2.1 C.2.2.2.2.2.2.2.1 hH.1 hH.2.1 hH.2.2 a 0 (pic_at hs) rfl h1 hd (fun H1 locs1 hP1 hD1 hS1 => ?_)
  rw [h2, hu] at hP1 hD1
  exact kk C H1 locs1 lsc ⟨hP1, hD1, hS1⟩ hl
theorem r_zast {a n j : Nat} {b : Bool} {f : Nat → Option Nat} (e : dk μ pc .bastore 1 npc) (hs : shTab[a]? = some (.inl (2, n, f))) (hj : j < n) (kk : G Y ad μ npc ls st (si h a j (bI b))) : G Y ad μ pc ls (.int (bI b) :: .int (nI j) :: .ref (ad a) :: st) h := by
  intro C H locs lsc hH hl
  obtain ⟨hd, rfl⟩ := e
  obtain ⟨h1, h2⟩ := nI_cl hj (shLen hs)
  have hu : (pic ad Y.2.1.2 h).set a (ad a, .inl (Y.2.1.2 2, n, .inl (upd (h.1 a) j (bI b)))) = pic ad Y.2.1.2 (si h a j (bI b)) := pic_upd hs (by show Sum.inl (Y.2.1.2 2, n, Sum.inl ((si h a j (bI b)).1 a)) = _; rw [si_row]) (fun i hi => ⟨si_o hi, rfl⟩)
  refine va_zast C.1 C.2.1 C.2.2.2.2.2.2.2.1 hH.1 hH.2.1 hH.2.2 a 2 (pic_at hs) rfl h1 hd (fun H1 locs1 hP1 hD1 hS1 => ?_)
  rw [h2, bI_vp, hu] at hP1 hD1
  exact kk C H1 locs1 lsc ⟨hP1, hD1, hS1⟩ hl
theorem r_last {a n j : Nat} {x : Int64} {f : Nat → Option Nat} (e : dk μ pc .lastore 1 npc) (hs : shTab[a]? = some (.inl (1, n, f))) (hj : j < n) (kk : G Y ad μ npc ls st (sl h a j x)) : G Y ad μ pc ls (.long x :: .int (nI j) :: .ref (ad a) :: st) h := by
  intro C H locs lsc hH hl
  obtain ⟨hd, rfl⟩ := e
  obtain ⟨h1, h2⟩ := nI_cl hj (shLen hs)
  have hu : (pic ad Y.2.1.2 h).set a (ad a, .inl (Y.2.1.2 1, n, .inr (.inl (vp_updL (h.2 a) j x)))) = pic ad Y.2.1.2 (sl h a j x) := pic_upd hs (by show Sum.inl (Y.2.1.2 1, n, Sum.inr (Sum.inl ((sl h a j x).2 a))) = _; rw [sl_row]) (fun i hi => ⟨rfl, sl_o hi⟩)
  refine va_last C.1 C.2.1 C.2.2.2.2.2.2.2.1 hH.1 hH.2.1 hH.2.2 a 1 (pic_at hs) rfl h1 hd (fun H1 locs1 hP1 hD1 hS1 => ?_)
  rw [h2, hu] at hP1 hD1
  exact kk C H1 locs1 lsc ⟨hP1, hD1, hS1⟩ hl
theorem r_alenI {a n : Nat} {f : Nat → Option Nat} (e : dk μ pc .arraylength 1 npc) (hs : shTab[a]? = some (.inl (0, n, f))) (kk : G Y ad μ npc ls (.int (nI n) :: st) h) : G Y ad μ pc ls (.ref (ad a) :: st) h := by
  intro C H locs lsc hH hl
  obtain ⟨hd, rfl⟩ := e
  exact va_alen C.1 C.2.1 C.2.2.2.2.2.2.2.1 hH.1 a 0 (pic_at hs) rfl rfl hd (kk C H locs lsc hH hl)
theorem r_alenJ {a n : Nat} {f : Nat → Option Nat} (e : dk μ pc .arraylength 1 npc) (hs : shTab[a]? = some (.inl (1, n, f))) (kk : G Y ad μ npc ls (.int (nI n) :: st) h) : G Y ad μ pc ls (.ref (ad a) :: st) h := by
  intro C H locs lsc hH hl
  obtain ⟨hd, rfl⟩ := e
  exact va_alen C.1 C.2.1 C.2.2.2.2.2.2.2.1 hH.1 a 1 (pic_at hs) rfl rfl hd (kk C H locs lsc hH hl)
/-! ends -/
def qI (Q : Int32 → Mem → Prop) : Option Value → Mem → Prop := fun r h => ∃ x, r = some (.int x) ∧ Q x h
def qZ (Q : Bool → Mem → Prop) : Option Value → Mem → Prop := fun r h => ∃ b, r = some (.int (bI b)) ∧ Q b h
def qL (Q : Int64 → Mem → Prop) : Option Value → Mem → Prop := fun r h => ∃ x, r = some (.long x) ∧ Q x h
def qV (Q : Mem → Prop) : Option Value → Mem → Prop := fun r h => r = none ∧ Q h
theorem r_iret {Q : Int32 → Mem → Prop} {x : Int32} (hM : IsM Y ad (qI Q)) (e : dk μ pc .ireturn 1 npc) (hr : μ.2.2.2.1 = some .int) (hq : Q x h) : G Y ad μ pc ls [.int x] h := by
  intro C H locs lsc hH hl
  obtain ⟨hd, rfl⟩ := e
  obtain ⟨⟨p, l, e, R, s, m, args, below, meth, c, cells, slots, Qf⟩, D, A⟩ := Y
  obtain ⟨h1, h2, h3⟩ := hM
  dsimp only at h1 h2 h3
  subst h1; subst h2; subst h3
  exact W.iret C.1 C.2.1 (C.2.2.1.trans hr) (fun t ht hw => ⟨⟨_, h, rfl, ⟨x, rfl, hq⟩, by rw [ht]; exact hH.1, va_K.moved hw.alike C.2.2.2.2.2.2.2.1, hH.2.1⟩, hH.2.2.F ht⟩) hH.2.2.2.2 hd C.2.2.2.2.2.2.1
theorem r_zret {Q : Bool → Mem → Prop} {b : Bool} (hM : IsM Y ad (qZ Q)) (e : dk μ pc .ireturn 1 npc) (hr : μ.2.2.2.1 = some .boolean) (hq : Q b h) : G Y ad μ pc ls [.int (bI b)] h := by
  intro C H locs lsc hH hl
  obtain ⟨hd, rfl⟩ := e
  obtain ⟨⟨p, l, e, R, s, m, args, below, meth, c, cells, slots, Qf⟩, D, A⟩ := Y
  obtain ⟨h1, h2, h3⟩ := hM
  dsimp only at h1 h2 h3
  subst h1; subst h2; subst h3
  exact W.zret C.1 C.2.1 (C.2.2.1.trans hr) (bI_nar b) (fun t ht hw => ⟨⟨_, h, rfl, ⟨b, rfl, hq⟩, by rw [ht]; exact hH.1, va_K.moved hw.alike C.2.2.2.2.2.2.2.1, hH.2.1⟩, hH.2.2.F ht⟩) hH.2.2.2.2 hd C.2.2.2.2.2.2.1
theorem r_lret {Q : Int64 → Mem → Prop} {x : Int64} (hM : IsM Y ad (qL Q)) (e : dk μ pc .lreturn 1 npc) (hr : μ.2.2.2.1 = some .long) (hq : Q x h) : G Y ad μ pc ls [.long x] h := by
  intro C H locs lsc hH hl
  obtain ⟨hd, rfl⟩ := e
  obtain ⟨⟨p, l, e, R, s, m, args, below, meth, c, cells, slots, Qf⟩, D, A⟩ := Y
  obtain ⟨h1, h2, h3⟩ := hM
  dsimp only at h1 h2 h3
  subst h1; subst h2; subst h3
  exact W.lret C.1 C.2.1 (C.2.2.1.trans hr) (fun t ht hw => ⟨⟨_, h, rfl, ⟨x, rfl, hq⟩, by rw [ht]; exact hH.1, va_K.moved hw.alike C.2.2.2.2.2.2.2.1, hH.2.1⟩, hH.2.2.F ht⟩) hH.2.2.2.2 hd C.2.2.2.2.2.2.1
theorem r_vret {Q : Mem → Prop} (hM : IsM Y ad (qV Q)) (e : dk μ pc .return_ 1 npc) (hr : μ.2.2.2.1 = none) (hq : Q h) : G Y ad μ pc ls [] h := by
  intro C H locs lsc hH hl
  obtain ⟨hd, rfl⟩ := e
  obtain ⟨⟨p, l, e, R, s, m, args, below, meth, c, cells, slots, Qf⟩, D, A⟩ := Y
  obtain ⟨h1, h2, h3⟩ := hM
  dsimp only at h1 h2 h3
  subst h1; subst h2; subst h3
  exact W.vret C.1 C.2.1 (C.2.2.1.trans hr) (fun t ht hw => ⟨⟨_, h, rfl, ⟨rfl, hq⟩, by rw [ht]; exact hH.1, va_K.moved hw.alike C.2.2.2.2.2.2.2.1, hH.2.1⟩, hH.2.2.F ht⟩) hH.2.2.2.2 hd C.2.2.2.2.2.2.1
/-! calls -/
theorem good_ws {μ' : Mth} (hok : okM μ') : GoodIn gT (mWs μ') := by
  intro w hw
  have hm : w ∈ gT := (List.mem_cons.mp hw).elim (fun q => by rw [q]; exact gW hok.1 rfl) id
  exact ⟨hm, good_of_word (List.mem_filter.mp hm).2⟩
theorem nP_ok {μ' : Mth} (hok : okM μ') : (parseMethodDescriptor μ'.1.desc).map (fun d => d.parameters.length) = some (nP μ') := by
  have h := hok.2.2.2.2.1
  unfold nP
  cases hp : parseMethodDescriptor μ'.1.desc with
  | none => rw [hp] at h; cases h
  | some d => rfl
theorem cBlind {D : va_G × (Nat → ClassId)} {A : Nat → Prop} {As : List Value} : FrameBlind (va_Pc As (cPre ad D A h)) := fun a U g mk q => ⟨q.1, q.2.1, va_K.moved (u := U) (U := U.calling g mk a) (Vm.Alike.refl U.vm) q.2.2.1, q.2.2.2⟩
theorem r_V {μ' : Mth} {As : List Value} {k ci : Nat} {fs : List (Nat ⊕ Bool)} {Q : Option Value → Mem → Prop} (e : dV μ pc μ' npc) (hok : okM μ') (hi : dW (.instanceMethod μ'.1) ∧ dW (.selects μ'.1.cls μ'.1 μ'.1)) (hn : As.length = nP μ') (hs : shTab[k]? = some (.inr (ci, fs))) (hcl : ∃ q, vwCl[ci]? = some q ∧ q.1 = μ'.1.cls) (hK : Con ad μ' (.ref (ad k) :: As) h Q) (hst : (st.map fun v => v.category).sum ≤ 8) (kk : ∀ (r : Option Value) (h1 : Mem), Q r h1 → G Y ad μ npc ls (r.toList ++ st) h1) : G Y ad μ pc ls (As.reverse ++ .ref (ad k) :: st) h := by
  intro C H locs lsc hH hl
  obtain ⟨ix, hd, rfl, hw, hr1, hr2⟩ := e
  obtain ⟨⟨p, l, e, R, s, m, args, below, meth, c, cells, slots, Qf⟩, D, A⟩ := Y
  obtain ⟨hx, hb, hr, hml, hown, hts, hlk, hKs, hA, hfr, hlo, hce, hsl⟩ := id C
  dsimp only at hx hb hr hml hown hts hlk hKs hA hfr hlo hce hsl
  obtain ⟨q, hq1, hq2⟩ := hcl
  have cw : CallW R s args μ.2.2.2.2.1 μ'.1.cls ix μ'.1 μ'.2.1 μ'.2.2.1 μ'.2.2.2.1 (mWs μ') (mRoom μ') 0 0 (nP μ') := ⟨callB_of (nP μ') hts (good_ws hok) rfl rfl rfl (hts _ (gW hok.2.1 rfl)) (hts _ (gW hw rfl)) ⟨hok.2.2.1.1, hok.2.2.1.2, nP_ok hok⟩ ⟨by rw [hfr]; exact hr1, by rw [hlo]; exact hr2⟩, hts _ (gW hi.1 rfl), hts _ (gW hi.2 rfl)⟩
  have hrc : ∃ cellB : Cell, H[ad k]? = some cellB ∧ cellB.vm.isStatics = false ∧ s.vm.findClass μ'.1.cls = some cellB.cls := by
    rw [← hq2]
    exact va_recv hKs hH.1 (ci := ci) (q0 := k) hq1 (pic_at hs)
  have pv : PreV s H μ'.1.cls (ad k) (va_Pc (.ref (ad k) :: As) (cPre ad D A h)) As := ⟨cBlind, hrc, fun U hU hW => ⟨rfl, by rw [hU]; exact hH.1, va_K.moved hW.alike hKs, hH.2.1, fun q hq => hA q (Nat.le_trans hH.2.2.1 (by rw [← hU]; exact hq))⟩⟩
  have run := va_runV (p := p) (l := l) (e := e) (R := R) (s := s) (m := m) (args := args) (below := below) (meth := meth) (c := c) (H := H) (locs := locs) (cells := cells) (slots := slots) (cc := μ.2.1) (nL := μ.2.2.1) (g := F0 m pc lsc (As.reverse ++ .ref (ad k) :: st)) (rest := st) (As := As) (b := ad k) ⟨hx, hb, hml, hown, hts⟩ (hK l D A) cw pv rfl hn hl.1 rfl (lv_room hst) hd ⟨hce, hsl⟩
  intro T hT X
  obtain ⟨v, st₀, t, T', L, h0, X', hL, e1, e2, ⟨⟨r, h', hv, hQ, hP1, hK1, hD1⟩, hz, hkp⟩, go⟩ := run T hT X
  cases hv
  rw [h0] at hz hkp
  have hS1 : va_S A s.heap T'.heap (locs ++ L) := ⟨Nat.le_trans hH.2.2.1 (by rw [e1]; exact hz), fun q h1 h2 => by rw [e1, hkp q (Nat.lt_of_lt_of_le h1 hH.2.2.1) h2]; exact hH.2.2.2.1 q h1 h2, fun q hq => by
    rcases List.mem_append.mp hq with h | h
    · exact hH.2.2.2.2 q h
    · exact hL q h⟩
  obtain ⟨t2, a1, b1⟩ := kk _ h' hQ C T'.heap (locs ++ L) lsc ⟨by rw [e1]; exact hP1, hD1, hS1⟩ hl T' rfl X'
  exact ⟨t2, go t2 a1, b1⟩
theorem r_S {μ' : Mth} {As : List Value} {Q : Option Value → Mem → Prop} (e : dS μ pc μ' npc) (hok : okM μ') (hi : dW (.static μ'.1)) (hn : As.length = nP μ') (hK : Con ad μ' As h Q) (hst : (st.map fun v => v.category).sum ≤ 8) (kk : ∀ (r : Option Value) (h1 : Mem), Q r h1 → G Y ad μ npc ls (r.toList ++ st) h1) : G Y ad μ pc ls (As.reverse ++ st) h := by
  intro C H locs lsc hH hl
  obtain ⟨ix, hd, rfl, hw, hr1, hr2⟩ := e
  obtain ⟨⟨p, l, e, R, s, m, args, below, meth, c, cells, slots, Qf⟩, D, A⟩ := Y
  obtain ⟨hx, hb, hr, hml, hown, hts, hlk, hKs, hA, hfr, hlo, hce, hsl⟩ := id C
  dsimp only at hx hb hr hml hown hts hlk hKs hA hfr hlo hce hsl
  have cw : CallB R s args μ.2.2.2.2.1 ix μ'.1 μ'.2.1 μ'.2.2.1 μ'.2.2.2.1 (mWs μ') (mRoom μ') 0 0 (nP μ') ∧ (Cond.static μ'.1).before args s = true := ⟨callB_of (nP μ') hts (good_ws hok) rfl rfl rfl (hts _ (gW hok.2.1 rfl)) (hts _ (gW hw rfl)) ⟨hok.2.2.1.1, hok.2.2.1.2, nP_ok hok⟩ ⟨by rw [hfr]; exact hr1, by rw [hlo]; exact hr2⟩, hts _ (gW hi rfl)⟩
  have pv : PreS s H (va_Pc As (cPre ad D A h)) As := ⟨cBlind, fun U hU hW => ⟨rfl, by rw [hU]; exact hH.1, va_K.moved hW.alike hKs, hH.2.1, fun q hq => hA q (Nat.le_trans hH.2.2.1 (by rw [← hU]; exact hq))⟩⟩
  have run := va_runS (p := p) (l := l) (e := e) (R := R) (s := s) (m := m) (args := args) (below := below) (meth := meth) (c := c) (H := H) (locs := locs) (cells := cells) (slots := slots) (cc := μ.2.1) (nL := μ.2.2.1) (g := F0 m pc lsc (As.reverse ++ st)) (rest := st) (As := As) ⟨hx, hb, hml, hown, hts⟩ (hK l D A) cw pv rfl hn hl.1 rfl (lv_room hst) hd ⟨hce, hsl⟩
  intro T hT X
  obtain ⟨v, st₀, t, T', L, h0, X', hL, e1, e2, ⟨⟨r, h', hv, hQ, hP1, hK1, hD1⟩, hz, hkp⟩, go⟩ := run T hT X
  cases hv
  rw [h0] at hz hkp
  have hS1 : va_S A s.heap T'.heap (locs ++ L) := ⟨Nat.le_trans hH.2.2.1 (by rw [e1]; exact hz), fun q h1 h2 => by rw [e1, hkp q (Nat.lt_of_lt_of_le h1 hH.2.2.1) h2]; exact hH.2.2.2.1 q h1 h2, fun q hq => by
    rcases List.mem_append.mp hq with h | h
    · exact hH.2.2.2.2 q h
    · exact hL q h⟩
  obtain ⟨t2, a1, b1⟩ := kk _ h' hQ C T'.heap (locs ++ L) lsc ⟨by rw [e1]; exact hP1, hD1, hS1⟩ hl T' rfl X'
  exact ⟨t2, go t2 a1, b1⟩
end MEM

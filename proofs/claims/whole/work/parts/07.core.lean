/-! A fixed world of cells: their shapes never change; ints and longs do -/
abbrev Mem : Type := (Nat → Nat → Int32) × (Nat → Nat → Int64)
/-- the shape of a cell: an array (kind, length, for one of references what it holds), or an object (class, fields: a fixed reference, an int, a long) -/
abbrev Shp : Type := (Nat × Nat × (Nat → Option Nat)) ⊕ (Nat × List (Nat ⊕ Bool))
def fvals (ad : Nat → Nat) (h : Mem) (k : Nat) : Nat → List (Nat ⊕ Bool) → List Value
  | _, [] => []
  | j, .inl r :: t => .ref (ad r) :: fvals ad h k (j + 1) t
  | j, .inr false :: t => .int (h.1 k j) :: fvals ad h k (j + 1) t
  | j, .inr true :: t => .long (h.2 k j) :: fvals ad h k (j + 1) t
def arrOf (ad : Nat → Nat) (h : Mem) (k t : Nat) (f : Nat → Option Nat) : (Nat → Int32) ⊕ (Nat → Int64) ⊕ (Nat → UInt32) ⊕ (Nat → UInt64) ⊕ (Nat → Option Nat) := match t with
  | 0 => .inl (h.1 k)
  | 1 => .inr (.inl (h.2 k))
  | 2 => .inl (h.1 k)
  | _ => .inr (.inr (.inr (.inr (fun j => (f j).map ad))))
def cellOf (ad : Nat → Nat) (ca : Nat → ClassId) (h : Mem) (k : Nat) (S : Shp) : va_E := match S with
  | .inl (t, n, f) => .inl (ca t, n, arrOf ad h k t f)
  | .inr (ci, fs) => .inr (ci, fvals ad h k 0 fs)
abbrev shI (n : Nat) : Shp := .inl (0, n, fun _ => none)
abbrev shJ (n : Nat) : Shp := .inl (1, n, fun _ => none)
abbrev shZ (n : Nat) : Shp := .inl (2, n, fun _ => none)
abbrev shL (q : Nat) : List Shp := [.inr (0, [.inr false, .inr false, .inr false, .inl (q + 1), .inl (q + 2), .inl (q + 3), .inl (q + 4), .inl (q + 5), .inl (q + 6)]), shI 60, shI 60, shJ 60, shJ 8, shJ 20, shJ 20]
def shTab : List Shp := [.inr (3, [.inl 1, .inl 51, .inl 55, .inl 62, .inl 69, .inr false, .inr false]),
  .inr (2, [.inr false, .inl 2, .inl 3, .inl 4, .inl 5, .inl 6, .inl 27, .inl 48, .inl 49, .inl 50]), shI 20, shI 20, shI 20, shI 20, .inl (4, 20, fun j => if j < 20 then some (7 + j) else none)] ++ List.replicate 20 (shI 16) ++ [.inl (4, 20, fun j => if j < 20 then some (28 + j) else none)] ++ List.replicate 20 (shI 16) ++ [shI 20, shI 20, shZ 20,
  .inr (1, [.inr false, .inr true, .inr true, .inr false, .inl 52, .inl 53, .inl 54]), shI 32, shI 32, shJ 32] ++ shL 55 ++ shL 62 ++ [.inl (3, 3, fun j => if j < 3 then some (70 + 7 * j) else none)] ++ shL 70 ++ shL 77 ++ shL 84 ++
  [.inr (4, [.inr false, .inl 92, .inl 93, .inl 94, .inl 95, .inl 96, .inl 97, .inr false, .inr false, .inl 98, .inl 99, .inl 100, .inl 101, .inl 102, .inl 103, .inl 104, .inl 105, .inl 106, .inr false, .inl 107, .inl 108, .inr false, .inl 109, .inl 110, .inl 111]),
  shI 20, shI 20, shI 400, shI 400, shI 20, shI 20, shZ 5, shI 5, shI 5, shI 5, shI 300, shI 300, shJ 300, shJ 40, shJ 100, shI 20, shZ 20, shI 40, shI 40, shJ 40]
def pic (ad : Nat → Nat) (ca : Nat → ClassId) (h : Mem) : va_W := shTab.zipIdx.map (fun q => (ad q.2, cellOf ad ca h q.2 q.1))
theorem pic_at {ad : Nat → Nat} {ca : Nat → ClassId} {h : Mem} {k : Nat} {S : Shp} (hs : shTab[k]? = some S) : (pic ad ca h)[k]? = some (ad k, cellOf ad ca h k S) := by
  unfold pic
  rw [List.getElem?_map, List.getElem?_zipIdx, hs]
  simp
theorem pic_none {ad : Nat → Nat} {ca : Nat → ClassId} {h : Mem} {k : Nat} (hs : shTab[k]? = none) : (pic ad ca h)[k]? = none := by
  unfold pic
  rw [List.getElem?_map, List.getElem?_zipIdx, hs]
  rfl
theorem fvals_cong {ad : Nat → Nat} {h h' : Mem} {k : Nat} (fs : List (Nat ⊕ Bool)) : ∀ j0 : Nat, (∀ i, j0 ≤ i → h'.1 k i = h.1 k i ∧ h'.2 k i = h.2 k i) → fvals ad h' k j0 fs = fvals ad h k j0 fs := by
  induction fs with
  | nil => intro _ _; rfl
  | cons f t ih =>
    intro j0 hh
    have h1 := ih (j0 + 1) (fun i hi => hh i (by omega))
    obtain ⟨a, b⟩ := hh j0 (Nat.le_refl _)
    rcases f with r | (_ | _) <;> simp [fvals, h1, a, b]
theorem cellOf_cong {ad : Nat → Nat} {ca : Nat → ClassId} {h h' : Mem} {k : Nat} {S : Shp} (h1 : h'.1 k = h.1 k) (h2 : h'.2 k = h.2 k) : cellOf ad ca h' k S = cellOf ad ca h k S := by
  rcases S with ⟨t, n, f⟩ | ⟨ci, fs⟩
  · simp only [cellOf, arrOf, h1, h2]
  · simp only [cellOf]
    rw [fvals_cong (h := h) (h' := h') fs 0 (fun i _ => by rw [h1, h2]; exact ⟨rfl, rfl⟩)]
theorem pic_upd {ad : Nat → Nat} {ca : Nat → ClassId} {h h' : Mem} {k : Nat} {S : Shp} {e : va_E} (hs : shTab[k]? = some S) (he : cellOf ad ca h' k S = e) (ho : ∀ j, j ≠ k → h'.1 j = h.1 j ∧ h'.2 j = h.2 j) : (pic ad ca h).set k (ad k, e) = pic ad ca h' := by
  have hlt : k < (pic ad ca h).length := by
    have := pic_at (ad := ad) (ca := ca) (h := h) hs
    exact (List.getElem?_eq_some_iff.mp this).1
  apply List.ext_getElem?
  intro i
  by_cases hik : i = k
  · subst hik
    rw [List.getElem?_set_self hlt, pic_at hs, he]
  · rw [List.getElem?_set_ne (Ne.symm hik)]
    cases hS : shTab[i]? with
    | none => rw [pic_none hS, pic_none hS]
    | some S' =>
      obtain ⟨a, b⟩ := ho i hik
      rw [pic_at hS, pic_at hS, cellOf_cong a b]
def si (h : Mem) (a i : Nat) (x : Int32) : Mem := (va_up h.1 a (upd (h.1 a) i x), h.2)
def sl (h : Mem) (a i : Nat) (x : Int64) : Mem := (h.1, va_up h.2 a (vp_updL (h.2 a) i x))
/-- a whole row of ints, of longs -/
def sri (h : Mem) (a : Nat) (f : Nat → Int32) : Mem := (va_up h.1 a f, h.2)
def srl (h : Mem) (a : Nat) (f : Nat → Int64) : Mem := (h.1, va_up h.2 a f)
theorem mu_self {α : Type} (f : Nat → α) (k : Nat) (v : α) : va_up f k v k = v := if_pos rfl
theorem mu_ne {α : Type} {f : Nat → α} {k j : Nat} {v : α} (h : j ≠ k) : va_up f k v j = f j := if_neg h
theorem si_row (h : Mem) (a i : Nat) (x : Int32) : (si h a i x).1 a = upd (h.1 a) i x := mu_self _ _ _
theorem si_o {h : Mem} {a i b : Nat} {x : Int32} (hb : b ≠ a) : (si h a i x).1 b = h.1 b := mu_ne hb
theorem si_2 (h : Mem) (a i : Nat) (x : Int32) : (si h a i x).2 = h.2 := rfl
theorem sl_row (h : Mem) (a i : Nat) (x : Int64) : (sl h a i x).2 a = vp_updL (h.2 a) i x := mu_self _ _ _
theorem sl_o {h : Mem} {a i b : Nat} {x : Int64} (hb : b ≠ a) : (sl h a i x).2 b = h.2 b := mu_ne hb
theorem sl_1 (h : Mem) (a i : Nat) (x : Int64) : (sl h a i x).1 = h.1 := rfl
theorem sri_row (h : Mem) (a : Nat) (f : Nat → Int32) : (sri h a f).1 a = f := mu_self _ _ _
theorem sri_o {h : Mem} {a b : Nat} {f : Nat → Int32} (hb : b ≠ a) : (sri h a f).1 b = h.1 b := mu_ne hb
theorem srl_row (h : Mem) (a : Nat) (f : Nat → Int64) : (srl h a f).2 a = f := mu_self _ _ _
theorem srl_o {h : Mem} {a b : Nat} {f : Nat → Int64} (hb : b ≠ a) : (srl h a f).2 b = h.2 b := mu_ne hb
theorem fvals_get {ad : Nat → Nat} {h : Mem} {k : Nat} (fs : List (Nat ⊕ Bool)) : ∀ j0 j : Nat, (fvals ad h k j0 fs)[j]? = fs[j]?.map (fun f => match f with | .inl r => .ref (ad r) | .inr false => .int (h.1 k (j0 + j)) | .inr true => .long (h.2 k (j0 + j))) := by
  induction fs with
  | nil => intro j0 j; simp [fvals]
  | cons f t ih =>
    intro j0 j
    cases j with
    | zero => rcases f with r | (_ | _) <;> simp [fvals]
    | succ j =>
      have := ih (j0 + 1) j
      rw [show j0 + 1 + j = j0 + (j + 1) by omega] at this
      rcases f with r | (_ | _) <;> simp [fvals, this]
theorem fvals_len {ad : Nat → Nat} {h : Mem} {k : Nat} (fs : List (Nat ⊕ Bool)) : ∀ j0 : Nat, (fvals ad h k j0 fs).length = fs.length := by
  induction fs with
  | nil => intro _; rfl
  | cons f t ih =>
    intro j0
    rcases f with r | (_ | _) <;> simp [fvals, ih]
theorem fvals_setI {ad : Nat → Nat} {h : Mem} {k j : Nat} {x : Int32} {fs : List (Nat ⊕ Bool)} (hf : fs[j]? = some (.inr false)) : fvals ad (si h k j x) k 0 fs = (fvals ad h k 0 fs).set j (.int x) := by
  apply List.ext_getElem?
  intro i
  rw [fvals_get]
  by_cases hij : i = j
  · subst hij
    rw [List.getElem?_set_self (by rw [fvals_len]; exact (List.getElem?_eq_some_iff.mp hf).1), hf]
    simp [si_row, upd]
  · rw [List.getElem?_set_ne (Ne.symm hij), fvals_get]
    cases fs[i]? with
    | none => rfl
    | some f =>
      rcases f with r | (_ | _) <;> simp [si_row, si_2, upd, hij]
theorem fvals_setL {ad : Nat → Nat} {h : Mem} {k j : Nat} {x : Int64} {fs : List (Nat ⊕ Bool)} (hf : fs[j]? = some (.inr true)) : fvals ad (sl h k j x) k 0 fs = (fvals ad h k 0 fs).set j (.long x) := by
  apply List.ext_getElem?
  intro i
  rw [fvals_get]
  by_cases hij : i = j
  · subst hij
    rw [List.getElem?_set_self (by rw [fvals_len]; exact (List.getElem?_eq_some_iff.mp hf).1), hf]
    simp [sl_row, vp_updL]
  · rw [List.getElem?_set_ne (Ne.symm hij), fvals_get]
    cases fs[i]? with
    | none => rfl
    | some f =>
      rcases f with r | (_ | _) <;> simp [sl_row, sl_1, vp_updL, hij]
/-! locals by their places -/
def lvp : Nat → List (Option Value) → List (Nat × Value)
  | _, [] => []
  | i, some v :: t => (i, v) :: lvp (i + 1) t
  | i, none :: t => lvp (i + 1) t
theorem lvp_mem (ls : List (Option Value)) : ∀ (i0 : Nat) (q : Nat × Value), q ∈ lvp i0 ls ↔ i0 ≤ q.1 ∧ ls[q.1 - i0]? = some (some q.2) := by
  induction ls with
  | nil => intro i0 q; simp [lvp]
  | cons o t ih =>
    intro i0 q
    have h1 := ih (i0 + 1) q
    obtain ⟨a, v⟩ := q
    dsimp only at h1 ⊢
    have key : (i0 + 1 ≤ a ∧ t[a - (i0 + 1)]? = some (some v)) ↔ (i0 ≤ a ∧ a ≠ i0 ∧ (o :: t)[a - i0]? = some (some v)) := by
      constructor
      · rintro ⟨h, h2⟩
        refine ⟨by omega, by omega, ?_⟩
        rw [show a - i0 = (a - (i0 + 1)) + 1 by omega, List.getElem?_cons_succ]; exact h2
      · rintro ⟨h, h3, h2⟩
        refine ⟨by omega, ?_⟩
        rw [show a - i0 = (a - (i0 + 1)) + 1 by omega, List.getElem?_cons_succ] at h2; exact h2
    cases o with
    | none =>
      rw [lvp, h1, key]
      constructor
      · rintro ⟨x, y, z⟩; exact ⟨x, z⟩
      · rintro ⟨x, z⟩
        refine ⟨x, ?_, z⟩
        intro hai
        subst hai
        simp at z
    | some w =>
      rw [lvp, List.mem_cons, h1, key]
      constructor
      · rintro (e | ⟨x, y, z⟩)
        · cases e; simp
        · exact ⟨x, z⟩
      · rintro ⟨x, z⟩
        by_cases hai : a = i0
        · subst hai
          simp at z
          exact Or.inl (by rw [z])
        · exact Or.inr ⟨x, hai, z⟩
theorem lvp_get {ls : List (Option Value)} {i : Nat} {v : Value} (h : ls[i]? = some (some v)) : (i, v) ∈ lvp 0 ls := (lvp_mem ls 0 (i, v)).mpr ⟨Nat.zero_le _, h⟩
theorem lvh_mono {lsc : Array Slot} {n : Nat} {l l' : List (Nat × Value)} (h : lv_has lsc n l) (hm : ∀ q ∈ l', q ∈ l) : lv_has lsc n l' := ⟨h.1, h.2.1, fun q hq => h.2.2 q (hm q hq)⟩
/-! the judgement -/
/-- the words that a call hands on -/
def gT : List Cond := lw_tbl.filter goodWord
theorem gW {w : Cond} (h : dW w) (hg : goodWord w = true) : w ∈ gT := List.mem_filter.mpr ⟨h, hg⟩
abbrev Cxt : Type := Program × Launch × Env × Room × State × MethodId × Array Value × List Frame × Method × Code × Nat × Nat × (State → Prop)
abbrev Env3 : Type := Cxt × (va_G × (Nat → ClassId)) × (Nat → Prop)
abbrev tysOf (ca : Nat → ClassId) : List (ClassId × FieldType) := [(ca 0, .int), (ca 1, .long), (ca 2, .boolean), (ca 3, .object "RestBounds$Listing"), (ca 4, .array .int)]
def WX (X : Cxt) (H : Heap) (locs : List Loc) (g : JFrame) : Prop := W X.1 X.2.1 X.2.2.1 X.2.2.2.1 X.2.2.2.2.1 X.2.2.2.2.2.1 X.2.2.2.2.2.2.1 X.2.2.2.2.2.2.2.1 X.2.2.2.2.2.2.2.2.1 X.2.2.2.2.2.2.2.2.2.1 H locs X.2.2.2.2.2.2.2.2.2.2.1 X.2.2.2.2.2.2.2.2.2.2.2.1 X.2.2.2.2.2.2.2.2.2.2.2.2 g
def CxP (p : Program) (R : Room) (s : State) (m : MethodId) (args : Array Value) (meth : Method) (c : Code) (cells slots : Nat) (D : va_G × (Nat → ClassId)) (A : Nat → Prop) (μ : Mth) : Prop :=
  p.tables.exec = Jvm.exec ∧ c.code = μ.2.1 ∧ meth.sig.returnType = μ.2.2.2.1 ∧ c.maxLocals = μ.2.2.1 ∧ s.vm.findClass μ.2.2.2.2.1 = some m.cls ∧ (∀ w ∈ gT, w.before args s = true) ∧ meth.locks = false ∧ va_K D.1 vwCl (tysOf D.2) s ∧ (∀ q, s.heap.size ≤ q → A q) ∧ R.frames = μ.2.2.2.2.2.1 ∧ R.locals = μ.2.2.2.2.2.2 ∧ cells ≤ R.cells ∧ slots ≤ R.slots
def Cx (Y : Env3) (μ : Mth) : Prop := CxP Y.1.1 Y.1.2.2.2.1 Y.1.2.2.2.2.1 Y.1.2.2.2.2.2.1 Y.1.2.2.2.2.2.2.1 Y.1.2.2.2.2.2.2.2.2.1 Y.1.2.2.2.2.2.2.2.2.2.1 Y.1.2.2.2.2.2.2.2.2.2.2.1 Y.1.2.2.2.2.2.2.2.2.2.2.2.1 Y.2.1 Y.2.2 μ
def Ht (Y : Env3) (ad : Nat → Nat) (h : Mem) (H : Heap) (locs : List Loc) : Prop := va_P Y.2.1.1 vwCl (pic ad Y.2.1.2 h) H ∧ va_D Y.2.2 (pic ad Y.2.1.2 h) ∧ va_S Y.2.2 Y.1.2.2.2.2.1.heap H locs
/-- from here, with these locals, this stack and these cells, the method comes to its end -/
def G (Y : Env3) (ad : Nat → Nat) (μ : Mth) (pc : Nat) (ls : List (Option Value)) (st : List Value) (h : Mem) : Prop :=
  Cx Y μ → ∀ (H : Heap) (locs : List Loc) (lsc : Array Slot), Ht Y ad h H locs → lv_has lsc μ.2.2.1 (lvp 0 ls) → WX Y.1 H locs (F0 Y.1.2.2.2.2.2.1 pc lsc st)
def Pq (ad : Nat → Nat) (D : va_G × (Nat → ClassId)) (A : Nat → Prop) (Q : Option Value → Mem → Prop) : Array Value → State → Outcome → State → Prop := fun _ st oc t =>
  (∃ (r : Option Value) (h' : Mem), oc = .returned r ∧ Q r h' ∧ va_P D.1 vwCl (pic ad D.2 h') t.heap ∧ va_K D.1 vwCl (tysOf D.2) t ∧ va_D A (pic ad D.2 h')) ∧ va_F A st t
/-- the end of a method with a wish Q -/
def IsM (Y : Env3) (ad : Nat → Nat) (Q : Option Value → Mem → Prop) : Prop := Y.1.2.2.2.2.2.2.2.2.2.2.1 = 0 ∧ Y.1.2.2.2.2.2.2.2.2.2.2.2.1 = 0 ∧ Y.1.2.2.2.2.2.2.2.2.2.2.2.2 = MQ Y.1.2.2.2.2.2.2.2.1 (Pq ad Y.2.1 Y.2.2 Q) Y.1.2.2.2.2.2.2.1 Y.1.2.2.2.2.1 0 0 Y.2.2
abbrev mRoom (μ : Mth) : Room := { frames := μ.2.2.2.2.2.1, cells := 0, slots := 0, locals := μ.2.2.2.2.2.2 }
abbrev mWs (μ : Mth) : List Cond := Cond.code μ.1 μ.2.1 μ.2.2.1 μ.2.2.2.1 :: gT
def cPre (ad : Nat → Nat) (D : va_G × (Nat → ClassId)) (A : Nat → Prop) (h : Mem) (U : State) : Prop := va_P D.1 vwCl (pic ad D.2 h) U.heap ∧ va_K D.1 vwCl (tysOf D.2) U ∧ va_D A (pic ad D.2 h) ∧ ∀ q, U.heap.size ≤ q → A q
/-- THE CONTRACT of a method: called with As over the cells h it returns, and Q of its answer and of the cells then -/
def Con (ad : Nat → Nat) (μ : Mth) (As : List Value) (h : Mem) (Q : Option Value → Mem → Prop) : Prop := ∀ (l : Launch) (D : va_G × (Nat → ClassId)) (A : Nat → Prop), Met l μ.1 (mWs μ) (mRoom μ) (va_Pc As (cPre ad D A h)) (Pq ad D A Q) 0 0 A
theorem Con.mk {ad : Nat → Nat} {μ : Mth} {As : List Value} {h : Mem} {Q : Option Value → Mem → Prop} (hok : okM μ) (hcl : μ.2.2.2.2.1 = μ.1.cls) (ls : List (Option Value)) (hls : lvp 0 ls = lv_args 0 As) (hlen : (lg_sl As).length ≤ μ.2.2.1) (k : ∀ Y : Env3, IsM Y ad Q → G Y ad μ 0 ls [] h) : Con ad μ As h Q := by
  intro l D A
  refine Met.ofW (cc := μ.2.1) (maxL := μ.2.2.1) (ret := μ.2.2.2.1) hok.2.2.2.1 rfl ?_
  intro p e s m args below meth c s₁ B hml hv
  obtain ⟨rfl, hP, hK, hD, hA⟩ := hv
  have hts := atoms_spec (ws := mWs μ) B.pre
  have hown : s.vm.findClass μ.2.2.2.2.1 = some m.cls := by rw [hcl]; exact findClass_of_methodNamed B.named
  rw [lg_entry_eq]
  have hl := lv_entry As hlen
  rw [← hls] at hl
  exact k ((p, l, e, (headSpec (mWs μ) (mRoom μ)).room, s, m, As.toArray, below, meth, c, 0, 0, MQ below (Pq ad D A Q) As.toArray s 0 0 A), D, A) ⟨rfl, rfl, rfl⟩ ⟨B.exec, B.bytes, B.returns, hml, hown, fun w hw => hts w (List.mem_cons_of_mem _ hw), B.notSynchronized, hK, hA, rfl, rfl, Nat.le_refl _, Nat.le_refl _⟩ s.heap [] _ ⟨hP, hD, va_S.rf⟩ hl

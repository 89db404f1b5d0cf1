/-! constructors: worlds that grow -/
abbrev yO : MethodName := Lib.objectInit
/-- the tables' words that are no good words -/
def XT (U : State) : Prop := va_AOA .int U ∧ va_AO RX0 U ∧ va_Nw (.methodLinkNest RX3 11 yX2_init RX3) U ∧ va_Nw (.methodLinkNest RX3 18 yX1_init RX3) U ∧ va_Nw (.methodLinkNest RX3 25 yX0_init RX3) U
theorem XT.warm {s U : State} (hW : s.WarmedH U.vm) (h : XT s) : XT U := ⟨va_AOA.moved hW.alike h.1, va_AO.moved hW.alike h.2.1, va_Nw.warmM hW h.2.2.1, va_Nw.warmM hW h.2.2.2.1, va_Nw.warmM hW h.2.2.2.2⟩
theorem XT.same {u U : State} (h : u.vm = U.vm) (H : XT u) : XT U := ⟨va_AOA.moved (h ▸ Vm.Alike.refl u.vm) H.1, va_AO.moved (h ▸ Vm.Alike.refl u.vm) H.2.1, va_Nw.same rfl h H.2.2.1, va_Nw.same rfl h H.2.2.2.1, va_Nw.same rfl h H.2.2.2.2⟩
def CxC (Y : Env3) (μ : Mth) (mc ms : Nat) : Prop := Y.1.1.tables.exec = Jvm.exec ∧ Y.1.2.2.2.2.2.2.2.2.2.1.code = μ.2.1 ∧ Y.1.2.2.2.2.2.2.2.2.1.sig.returnType = μ.2.2.2.1 ∧ Y.1.2.2.2.2.2.2.2.2.2.1.maxLocals = μ.2.2.1 ∧ Y.1.2.2.2.2.1.vm.findClass μ.2.2.2.2.1 = some Y.1.2.2.2.2.2.1.cls ∧ (∀ w ∈ gT, w.before Y.1.2.2.2.2.2.2.1 Y.1.2.2.2.2.1 = true) ∧ Y.1.2.2.2.2.2.2.2.2.1.locks = false ∧ va_K Y.2.1.1 vwCl (tysOf Y.2.1.2) Y.1.2.2.2.2.1 ∧ (∀ q, Y.1.2.2.2.2.1.heap.size ≤ q → Y.2.2 q) ∧ Y.1.2.2.2.1.frames = μ.2.2.2.2.2.1 ∧ Y.1.2.2.2.1.locals = μ.2.2.2.2.2.2 ∧ Y.1.2.2.2.1.cells = mc ∧ Y.1.2.2.2.1.slots = ms ∧ (μ.1.name = "<init>" → Y.1.2.2.2.2.2.2.2.2.1.name = "<init>") ∧ XT Y.1.2.2.2.2.1
def WC (Y : Env3) (H : Heap) (locs : List Loc) (cells slots : Nat) (g : JFrame) : Prop := W Y.1.1 Y.1.2.1 Y.1.2.2.1 Y.1.2.2.2.1 Y.1.2.2.2.2.1 Y.1.2.2.2.2.2.1 Y.1.2.2.2.2.2.2.1 Y.1.2.2.2.2.2.2.2.1 Y.1.2.2.2.2.2.2.2.2.1 Y.1.2.2.2.2.2.2.2.2.2.1 H locs cells slots Y.1.2.2.2.2.2.2.2.2.2.2.2.2 g
def CG (Y : Env3) (μ : Mth) (mc ms : Nat) (pc : Nat) (ls : List (Option Value)) (st : List Value) (ws : va_W) (cells slots : Nat) : Prop :=
  CxC Y μ mc ms → ∀ (H : Heap) (locs : List Loc) (lsc : Array Slot), va_P Y.2.1.1 vwCl ws H → va_D Y.2.2 ws → va_S Y.2.2 Y.1.2.2.2.2.1.heap H locs → lv_has lsc μ.2.2.1 (lvp 0 ls) → WC Y H locs cells slots (F0 Y.1.2.2.2.2.2.1 pc lsc st)
section CTOR
variable {Y : Env3} {μ : Mth} {mc ms pc npc : Nat} {ls : List (Option Value)} {st : List Value} {ws : va_W} {cells slots : Nat}
theorem c_dup {v : Value} (e : dk μ pc .dup 1 npc) (hv : v.category = 1) (k : CG Y μ mc ms npc ls (v :: v :: st) ws cells slots) : CG Y μ mc ms pc ls (v :: st) ws cells slots := by
  intro C H locs lsc hP hD hS hl
  obtain ⟨hd, rfl⟩ := e
  exact lv_dup C.1 C.2.1 hd hv (k C H locs lsc hP hD hS hl)
theorem c_ki {v : Int32} (e : dKi μ pc v npc) (k : CG Y μ mc ms npc ls (.int v :: st) ws cells slots) : CG Y μ mc ms pc ls st ws cells slots := by
  intro C H locs lsc hP hD hS hl
  rcases e with ⟨n, hd, hv, rfl⟩ | ⟨n, hd, hv, rfl⟩ | ⟨n, hd, hv, rfl⟩ | ⟨ix, hd, hw, rfl⟩
  · exact lv_iconst C.1 C.2.1 hd hv (k C H locs lsc hP hD hS hl)
  · exact lv_bipush C.1 C.2.1 hd hv (k C H locs lsc hP hD hS hl)
  · exact lv_sipush C.1 C.2.1 hd hv (k C H locs lsc hP hD hS hl)
  · exact lv_ldc C.1 C.2.1 C.2.2.2.2.1 (C.2.2.2.2.2.1 _ (gW hw rfl)) hd (k C H locs lsc hP hD hS hl)
theorem c_il {i : Nat} {x : Int32} (e : dIl μ pc i npc) (hx : ls[i]? = some (some (.int x))) (k : CG Y μ mc ms npc ls (.int x :: st) ws cells slots) : CG Y μ mc ms pc ls st ws cells slots := by
  intro C H locs lsc hP hD hS hl
  have hx' : lsc[i]? = some (.val (.int x)) := hl.2.2 _ (lvp_get hx)
  rcases e with ⟨n, hd, hi, rfl⟩ | ⟨hd, rfl⟩
  · exact lv_iload_n C.1 C.2.1 hd hi hx' (k C H locs lsc hP hD hS hl)
  · exact lv_iload C.1 C.2.1 hd hx' (k C H locs lsc hP hD hS hl)
theorem c_al {i : Nat} {x : Nat} (e : dAl μ pc i npc) (hx : ls[i]? = some (some (.ref x))) (k : CG Y μ mc ms npc ls (.ref x :: st) ws cells slots) : CG Y μ mc ms pc ls st ws cells slots := by
  intro C H locs lsc hP hD hS hl
  have hx' : lsc[i]? = some (.val (.ref x)) := hl.2.2 _ (lvp_get hx)
  rcases e with ⟨n, hd, hi, rfl⟩ | ⟨hd, rfl⟩
  · exact lv_aload_n C.1 C.2.1 hd hi hx' (k C H locs lsc hP hD hS hl)
  · exact lv_aload C.1 C.2.1 hd hx' (k C H locs lsc hP hD hS hl)
theorem c_is {i : Nat} {x : Int32} {ls' : List (Option Value)} (e : dIs μ pc i npc) (hs : ls1 ls ls' i (.int x)) (k : CG Y μ mc ms npc ls' st ws cells slots) : CG Y μ mc ms pc ls (.int x :: st) ws cells slots := by
  intro C H locs lsc hP hD hS hl
  obtain ⟨e, hi⟩ := e
  rcases e with ⟨n, hd, hn, rfl⟩ | ⟨hd, rfl⟩
  · exact lv_istore_n C.1 C.2.1 hd hn hl hi rfl (fun lsc' hl' => k C H locs lsc' hP hD hS (lvh_mono hl' (ls1_lv hs)))
  · exact lv_istore C.1 C.2.1 hd hl hi rfl (fun lsc' hl' => k C H locs lsc' hP hD hS (lvh_mono hl' (ls1_lv hs)))
theorem c_as {i : Nat} {x : Nat} {ls' : List (Option Value)} (e : dAs μ pc i npc) (hs : ls1 ls ls' i (.ref x)) (k : CG Y μ mc ms npc ls' st ws cells slots) : CG Y μ mc ms pc ls (.ref x :: st) ws cells slots := by
  intro C H locs lsc hP hD hS hl
  obtain ⟨e, hi⟩ := e
  rcases e with ⟨n, hd, hn, rfl⟩ | ⟨hd, rfl⟩
  · exact lv_astore_n C.1 C.2.1 hd hn hl hi rfl (fun lsc' hl' => k C H locs lsc' hP hD hS (lvh_mono hl' (ls1_lv hs)))
  · exact lv_astore C.1 C.2.1 hd hl hi rfl (fun lsc' hl' => k C H locs lsc' hP hD hS (lvh_mono hl' (ls1_lv hs)))
theorem c_in {i : Nat} {x n : Int32} {ls' : List (Option Value)} (e : dIn μ pc i n npc) (hx : ls[i]? = some (some (.int x))) (hs : ls1 ls ls' i (.int (x + n))) (k : CG Y μ mc ms npc ls' st ws cells slots) : CG Y μ mc ms pc ls st ws cells slots := by
  intro C H locs lsc hP hD hS hl
  obtain ⟨m, hd, hm, rfl, hi⟩ := e
  obtain ⟨k0, hk0⟩ := List.getElem?_of_mem (lvp_get hx)
  exact lv_iinc C.1 C.2.1 hd hl hk0 (by rw [hm]) hi rfl (fun lsc' hl' => k C H locs lsc' hP hD hS (lvh_mono hl' (ls1_lv hs)))
theorem c_is1 {x : Int32} {o0 oo : Option Value} {t : List (Option Value)} (e : dIs μ pc 1 npc) (hn : nlg o0 = true) (k : CG Y μ mc ms npc (o0 :: some (.int x) :: t) st ws cells slots) : CG Y μ mc ms pc (o0 :: oo :: t) (.int x :: st) ws cells slots := c_is e (ls1_1 hn) k
theorem c_as1 {x : Nat} {o0 oo : Option Value} {t : List (Option Value)} (e : dAs μ pc 1 npc) (hn : nlg o0 = true) (k : CG Y μ mc ms npc (o0 :: some (.ref x) :: t) st ws cells slots) : CG Y μ mc ms pc (o0 :: oo :: t) (.ref x :: st) ws cells slots := c_as e (ls1_1 hn) k
theorem c_in1 {a b : Nat} {o0 : Option Value} {t : List (Option Value)} (e : dIn μ pc 1 (nI b) npc) (hn : nlg o0 = true) (k : CG Y μ mc ms npc (o0 :: some (.int (nI (a + b))) :: t) st ws cells slots) : CG Y μ mc ms pc (o0 :: some (.int (nI a)) :: t) st ws cells slots := c_in e rfl (by rw [nI_add]; exact ls1_1 hn) k
theorem c_as2 {x : Nat} {o0 o1 oo : Option Value} {t : List (Option Value)} (e : dAs μ pc 2 npc) (hn : nlg o1 = true) (k : CG Y μ mc ms npc (o0 :: o1 :: some (.ref x) :: t) st ws cells slots) : CG Y μ mc ms pc (o0 :: o1 :: oo :: t) (.ref x :: st) ws cells slots := c_as e (ls1_2 hn) k
theorem c_is3 {x : Int32} {o0 o1 o2 oo : Option Value} {t : List (Option Value)} (e : dIs μ pc 3 npc) (hn : nlg o2 = true) (k : CG Y μ mc ms npc (o0 :: o1 :: o2 :: some (.int x) :: t) st ws cells slots) : CG Y μ mc ms pc (o0 :: o1 :: o2 :: oo :: t) (.int x :: st) ws cells slots := c_is e (ls1_3 hn) k
theorem c_go {tgt : Nat} (e : dJ μ pc tgt) (k : CG Y μ mc ms tgt ls st ws cells slots) : CG Y μ mc ms pc ls st ws cells slots := by
  intro C H locs lsc hP hD hS hl
  obtain ⟨off, hd, ht⟩ := e
  exact lv_goto C.1 C.2.1 hd ht (k C H locs lsc hP hD hS hl)
theorem c_c_ge {x y : Int32} {tgt : Nat} (e : dC μ pc .ge npc tgt) (kt : y ≤ x → CG Y μ mc ms tgt ls st ws cells slots) (kf : ¬ y ≤ x → CG Y μ mc ms npc ls st ws cells slots) : CG Y μ mc ms pc ls (.int y :: .int x :: st) ws cells slots := by
  intro C H locs lsc hP hD hS hl
  obtain ⟨off, hd, ht, rfl⟩ := e
  exact lv_icmp_ge C.1 C.2.1 hd ht (fun q => kt q C H locs lsc hP hD hS hl) (fun q => kf q C H locs lsc hP hD hS hl)
theorem c_n_ge {a b tgt : Nat} (e : dC μ pc .ge npc tgt) (ha : a < 2147483648) (hb : b < 2147483648) (kt : b ≤ a → CG Y μ mc ms tgt ls st ws cells slots) (kf : a < b → CG Y μ mc ms npc ls st ws cells slots) : CG Y μ mc ms pc ls (.int (nI b) :: .int (nI a) :: st) ws cells slots := c_c_ge e (fun q => kt ((nI_leI hb ha).mp q)) (fun q => kf (Nat.lt_of_not_le (fun z => q ((nI_leI hb ha).mpr z))))
/-- java.lang.Object's own -/
theorem wOb : dW (.instanceMethod Lib.objectInit) ∧ dW (.code Lib.objectInit ⟨#[0xb1]⟩ 1 none) := ⟨dW_at 41 (by decide +kernel), dW_at 42 (by decide +kernel)⟩
theorem c_obj {ix a : Nat} (hd : decode μ.2.1 pc = .ok (.invokespecial ix, 3)) (hw : dW (.methodLink μ.2.2.2.2.1 ix Lib.objectInit)) (hf : 1 ≤ μ.2.2.2.2.2.1) (hlo : 20 ≤ μ.2.2.2.2.2.2) (k : CG Y μ mc ms (pc + 3) ls [] ws cells slots) : CG Y μ mc ms pc ls [.ref a] ws cells slots := by
  intro C H locs lsc hP hD hS hl
  have hr := lv_room (m := Y.1.2.2.2.2.2.1) (pc := pc) (ls := lsc) (rest := [.ref a]) (st := []) (by decide)
  refine W.objInit (rest := []) C.1 C.2.1 C.2.2.2.2.1 (C.2.2.2.2.2.1 _ (gW hw rfl)) (C.2.2.2.2.2.1 _ (gW wOb.1 rfl)) (C.2.2.2.2.2.1 _ (gW wOb.2 rfl)) rfl (by rw [C.2.2.2.1]; exact hl.1) rfl hd (by rw [C.2.2.2.2.2.2.2.2.2.1]; exact hf) (by rw [C.2.2.2.2.2.2.2.2.2.2.1]; omega) ?_
  exact k C H locs lsc hP hD hS hl
theorem wAr : dW (.arrayClass .int) ∧ dW (.arrayClass .long) ∧ dW (.arrayClass .boolean) := ⟨dW_at 91 (by decide +kernel), dW_at 126 (by decide +kernel), dW_at 92 (by decide +kernel)⟩
theorem c_newI {n : Nat} (hd : decode μ.2.1 pc = .ok (.newarray .int, 2)) (hn : n < 401) (hc : cells + 1 ≤ mc) (hs : slots + n ≤ ms) (kk : ∀ q, CG Y μ mc ms (pc + 2) ls (.ref q :: st) (ws ++ [(q, .inl (Y.2.1.2 0, n, .inl (fun _ => 0)))]) (cells + 1) (slots + n)) : CG Y μ mc ms pc ls (.int (nI n) :: st) ws cells slots := by
  intro C H locs lsc hP hD hS hl
  have hK := C.2.2.2.2.2.2.2.1
  refine va_newa (atype := .int) (ty := .int) (N' := n) (a0 := (n, .inl (fun _ => 0))) C.1 C.2.1 (C.2.2.2.2.2.1 _ (gW wAr.1 rfl)) rfl hK hP hD hS C.2.2.2.2.2.2.2.2.1 (fun cA => vp_cell_i _ _ _) (nI_pos (by omega)) (nI_clamp (by omega)) (by show n * 4 ≤ _; omega) (by rw [C.2.2.2.2.2.2.2.2.2.2.2.1]; exact hc) (by rw [C.2.2.2.2.2.2.2.2.2.2.2.2.1]; exact hs) hd (fun q cA H1 hK1 hP1 hD1 hS1 => ?_)
  have e : cA = Y.2.1.2 0 := Option.some.inj ((va_nm_int (hK1.2 5 _ rfl).2).symm.trans (va_nm_int (hK.2 0 _ rfl).2))
  rw [e] at hP1 hD1
  exact kk q C H1 locs lsc hP1 hD1 hS1 hl
theorem c_newJ {n : Nat} (hd : decode μ.2.1 pc = .ok (.newarray .long, 2)) (hn : n < 401) (hc : cells + 1 ≤ mc) (hs : slots + n ≤ ms) (kk : ∀ q, CG Y μ mc ms (pc + 2) ls (.ref q :: st) (ws ++ [(q, .inl (Y.2.1.2 1, n, .inr (.inl (fun _ => 0))))]) (cells + 1) (slots + n)) : CG Y μ mc ms pc ls (.int (nI n) :: st) ws cells slots := by
  intro C H locs lsc hP hD hS hl
  have hK := C.2.2.2.2.2.2.2.1
  refine va_newa (atype := .long) (ty := .long) (N' := n) (a0 := (n, .inr (.inl (fun _ => 0)))) C.1 C.2.1 (C.2.2.2.2.2.1 _ (gW wAr.2.1 rfl)) rfl hK hP hD hS C.2.2.2.2.2.2.2.2.1 (fun cA => vp_cell_l _ _ _) (nI_pos (by omega)) (nI_clamp (by omega)) (by show n * 8 ≤ _; omega) (by rw [C.2.2.2.2.2.2.2.2.2.2.2.1]; exact hc) (by rw [C.2.2.2.2.2.2.2.2.2.2.2.2.1]; exact hs) hd (fun q cA H1 hK1 hP1 hD1 hS1 => ?_)
  have e : cA = Y.2.1.2 1 := Option.some.inj ((va_nm_long (hK1.2 5 _ rfl).2).symm.trans (va_nm_long (hK.2 1 _ rfl).2))
  rw [e] at hP1 hD1
  exact kk q C H1 locs lsc hP1 hD1 hS1 hl
theorem c_newZ {n : Nat} (hd : decode μ.2.1 pc = .ok (.newarray .boolean, 2)) (hn : n < 401) (hc : cells + 1 ≤ mc) (hs : slots + n ≤ ms) (kk : ∀ q, CG Y μ mc ms (pc + 2) ls (.ref q :: st) (ws ++ [(q, .inl (Y.2.1.2 2, n, .inl (fun _ => 0)))]) (cells + 1) (slots + n)) : CG Y μ mc ms pc ls (.int (nI n) :: st) ws cells slots := by
  intro C H locs lsc hP hD hS hl
  have hK := C.2.2.2.2.2.2.2.1
  refine va_newa (atype := .boolean) (ty := .boolean) (N' := n) (a0 := (n, .inl (fun _ => 0))) C.1 C.2.1 (C.2.2.2.2.2.1 _ (gW wAr.2.2 rfl)) rfl hK hP hD hS C.2.2.2.2.2.2.2.2.1 (fun cA => vp_cell_i _ _ _) (nI_pos (by omega)) (nI_clamp (by omega)) (by show n * 1 ≤ _; omega) (by rw [C.2.2.2.2.2.2.2.2.2.2.2.1]; exact hc) (by rw [C.2.2.2.2.2.2.2.2.2.2.2.2.1]; exact hs) hd (fun q cA H1 hK1 hP1 hD1 hS1 => ?_)
  have e : cA = Y.2.1.2 2 := Option.some.inj ((va_nm_boolean (hK1.2 5 _ rfl).2).symm.trans (va_nm_boolean (hK.2 2 _ rfl).2))
  rw [e] at hP1 hD1
  exact kk q C H1 locs lsc hP1 hD1 hS1 hl
/-- a final field of this -/
theorem c_putF {a v ci j : Nat} {fs : List Value} {X : va_W} {ty : FieldType} (e : dP μ pc ci j npc) (hin : μ.1.name = "<init>") (hfin : ((clR ci).2.1 j).2.2.2 = true) (hdecl : ((clR ci).2.1 j).1 = μ.2.2.2.2.1) (hd0 : parseFieldDescriptor ((clR ci).2.1 j).2.2.1 = some ty) (hn : narrow ty (.ref v) = .ref v) (hfit : fits ty (.ref v) = true) (hl0 : j < fs.length) (kk : CG Y μ mc ms npc ls st ((a, .inr (ci, fs.set j (.ref v))) :: X) cells slots) : CG Y μ mc ms pc ls (.ref v :: .ref a :: st) ((a, .inr (ci, fs)) :: X) cells slots := by
  intro C H locs lsc hP hD hS hl
  obtain ⟨ix, hd, rfl, hw, hj⟩ := e
  have hc := clR_ok hj
  obtain ⟨ty0, hty0⟩ := tyAll hc
  exact va_putF C.1 C.2.1 C.2.2.2.2.2.1 (inAll hc) ty0 hty0 (nmAll hc) C.2.2.2.2.1 C.2.2.2.2.2.2.2.1 hP hD hS 0 rfl hc j hj (C.2.2.2.2.2.1 _ (gW hw rfl)) (fun x q => q) hfin (C.2.2.2.2.2.2.2.2.2.2.2.2.2.1 hin) hdecl hd0 hn hfit hl0 hd (fun H1 locs1 hP1 hD1 hS1 => kk C H1 locs1 lsc hP1 hD1 hS1 hl)
theorem c_putI {a ci j : Nat} {x : Int32} {fs : List Value} {X : va_W} {ty : FieldType} (e : dP μ pc ci j npc) (hfin : ((clR ci).2.1 j).2.2.2 = false) (hd0 : parseFieldDescriptor ((clR ci).2.1 j).2.2.1 = some ty) (hn : narrow ty (.int x) = .int x) (hfit : fits ty (.int x) = true) (hl0 : j < fs.length) (kk : CG Y μ mc ms npc ls st ((a, .inr (ci, fs.set j (.int x))) :: X) cells slots) : CG Y μ mc ms pc ls (.int x :: .ref a :: st) ((a, .inr (ci, fs)) :: X) cells slots := by
  intro C H locs lsc hP hD hS hl
  obtain ⟨ix, hd, rfl, hw, hj⟩ := e
  have hc := clR_ok hj
  obtain ⟨ty0, hty0⟩ := tyAll hc
  exact va_put C.1 C.2.1 C.2.2.2.2.2.1 (inAll hc) ty0 hty0 (nmAll hc) C.2.2.2.2.1 C.2.2.2.2.2.2.2.1 hP hD hS 0 rfl hc j hj (C.2.2.2.2.2.1 _ (gW hw rfl)) (fun x q => q) hfin hd0 hn hfit hl0 hd (fun H1 locs1 hP1 hD1 hS1 => kk C H1 locs1 lsc hP1 hD1 hS1 hl)
theorem c_get {a r ci j : Nat} {fs : List Value} {X : va_W} (e : dG μ pc ci j npc) (hv : fs[j]? = some (.ref r)) (kk : CG Y μ mc ms npc ls (.ref r :: st) ((a, .inr (ci, fs)) :: X) cells slots) : CG Y μ mc ms pc ls (.ref a :: st) ((a, .inr (ci, fs)) :: X) cells slots := by
  intro C H locs lsc hP hD hS hl
  obtain ⟨ix, hd, rfl, hw, hj⟩ := e
  have hc := clR_ok hj
  exact va_get C.1 C.2.1 C.2.2.2.2.2.1 (inAll hc) C.2.2.2.2.1 C.2.2.2.2.2.2.2.1 hP 0 rfl hc j hj (C.2.2.2.2.2.1 _ (gW hw rfl)) (fun x q => q) hv hd (kk C H locs lsc hP hD hS hl)
theorem c_vret {Qc : Array Value → State → Outcome → State → Prop} (e : dk μ pc .return_ 1 npc) (hr : μ.2.2.2.1 = none) (hQ : Y.1.2.2.2.2.2.2.2.2.2.2.2.2 = MQ Y.1.2.2.2.2.2.2.2.1 Qc Y.1.2.2.2.2.2.2.1 Y.1.2.2.2.2.1 cells slots Y.2.2) (hq : CxC Y μ mc ms → ∀ (t : State), va_P Y.2.1.1 vwCl ws t.heap → va_K Y.2.1.1 vwCl (tysOf Y.2.1.2) t → va_D Y.2.2 ws → va_F Y.2.2 Y.1.2.2.2.2.1 t → Qc Y.1.2.2.2.2.2.2.1 Y.1.2.2.2.2.1 (.returned none) t) : CG Y μ mc ms pc ls [] ws cells slots := by
  intro C H locs lsc hP hD hS hl
  obtain ⟨hd, rfl⟩ := e
  unfold WC
  rw [hQ]
  exact W.vret C.1 C.2.1 (C.2.2.1.trans hr) (fun t ht hw => hq C t (by rw [ht]; exact hP) (va_K.moved hw.alike C.2.2.2.2.2.2.2.1) hD (hS.F ht)) hS.2.2 hd C.2.2.2.2.2.2.1
theorem pl_nil (f : Nat → va_E) (l : List Nat) (e : va_E) : va_pl ([] ++ l) (vr_up f l e) = l.map (fun a => (a, e)) := by
  unfold va_pl
  rw [List.nil_append]
  exact List.map_congr_left (fun a ha => by rw [vr_up_in ha])
theorem c_mna {ix : Nat} (hd : decode μ.2.1 pc = .ok (.multianewarray ix 2, 4)) (hw : dW (.classLink μ.2.2.2.2.1 ix "[[I")) (hc : cells + 21 ≤ mc) (hs : slots + 340 ≤ ms) (kk : ∀ (q : Nat) (r : Nat → Nat), CG Y μ mc ms (pc + 4) ls (.ref q :: st) ((ws ++ [(q, .inl (Y.2.1.2 4, 20, .inr (.inr (.inr (.inr (fun i => if i < 20 then some (r i) else none))))))]) ++ ((List.range 20).map r).map (fun a => (a, .inl (Y.2.1.2 0, 16, .inl (fun _ => 0))))) (cells + 21) (slots + 340)) : CG Y μ mc ms pc ls (.int (nI 16) :: .int (nI 20) :: st) ws cells slots := by
  intro C H locs lsc hP hD hS hl
  have hK := C.2.2.2.2.2.2.2.1
  have hn : va_pl ([] : List Nat) (fun _ => (.inl (Y.2.1.2 0, 16, .inl (fun _ => 0)) : va_E)) = [] := rfl
  refine va_mna (X := ws) (L := []) (f := fun _ => .inl (Y.2.1.2 0, 16, .inl (fun _ => 0))) (ty := .int) (cy := Y.2.1.2 0) (N' := 20) (K' := 16) (z := (16, .inl (fun _ => 0))) C.1 C.2.1 C.2.2.2.2.1 (C.2.2.2.2.2.1 _ (gW hw rfl)) C.2.2.2.2.2.2.2.2.2.2.2.2.2.2.1 (C.2.2.2.2.2.1 _ (gW wAr.1 rfl)) (va_nm_int (hK.2 0 _ rfl).2) hK (by rw [hn, List.append_nil]; exact hP) (by rw [hn, List.append_nil]; exact hD) hS C.2.2.2.2.2.2.2.2.1 (by decide) (by decide) (by decide) (by decide) (by decide) (by decide) (by decide) rfl rfl (by rw [C.2.2.2.2.2.2.2.2.2.2.2.1]; omega) (by rw [C.2.2.2.2.2.2.2.2.2.2.2.2.1]; omega) (fun c => ?_) hd (fun q r cA H1 _ _ hK1 hP1 hD1 hS1 => ?_)
  · rw [vp_cell_i, ← arrV_new]; rfl
  · have e : cA = Y.2.1.2 4 := Option.some.inj ((hK1.2 5 _ rfl).2.symm.trans (hK.2 4 _ rfl).2)
    rw [e, pl_nil] at hP1 hD1
    exact kk q r C H1 locs lsc hP1 hD1 hS1 hl
/-- a new object, its fields as they are born -/
theorem c_new {ix ci : Nat} {C : String} {T : u_T} {N : Nat} {fs : List Value} (hd : decode μ.2.1 pc = .ok (.new ix, 3)) (hc0 : vwCl[ci]? = some (C, T, N)) (hw : dW (.classLink μ.2.2.2.2.1 ix C)) (hi : dW (.instantiable C N)) (hini : dW (.initialized C)) (ty : Nat → FieldType) (hty : ∀ k, k < N → parseFieldDescriptor (T k).2.2.1 = some (ty k)) (hfs : ∀ j, j < N → defaultValue (ty j) = vp_V fs j) (hc : cells + 1 ≤ mc) (hs : slots + N ≤ ms) (kk : ∀ q, CG Y μ mc ms (pc + 3) ls (.ref q :: st) (ws ++ [(q, .inr (ci, fs))]) (cells + 1) (slots + N)) : CG Y μ mc ms pc ls st ws cells slots := by
  intro Cx H locs lsc hP hD hS hl
  exact va_new Cx.1 Cx.2.1 Cx.2.2.2.2.2.1 (inAll hc0) ty hty Cx.2.2.2.2.1 (Cx.2.2.2.2.2.1 _ (gW hw rfl)) (Cx.2.2.2.2.2.1 _ (gW hi rfl)) (Cx.2.2.2.2.2.1 _ (gW hini rfl)) Cx.2.2.2.2.2.2.2.1 hP hD hS Cx.2.2.2.2.2.2.2.2.1 hc0 hfs (by rw [Cx.2.2.2.2.2.2.2.2.2.2.2.1]; exact hc) (by rw [Cx.2.2.2.2.2.2.2.2.2.2.2.2.1]; exact hs) hd (fun q H1 hP1 hD1 hS1 => kk q Cx H1 locs lsc hP1 hD1 hS1 hl)
end CTOR

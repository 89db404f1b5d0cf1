section RULES
variable {Y : Env3} {ad : Nat → Nat} {μ : Mth} {pc npc : Nat} {ls : List (Option Value)} {st : List Value} {h : Mem}
theorem r_iadd {x y : Int32} (e : dk μ pc .iadd 1 npc) (k : G Y ad μ npc ls (.int (x + y) :: st) h) : G Y ad μ pc ls (.int y :: .int x :: st) h := by
  intro C H locs lsc hH hl
  obtain ⟨hd, rfl⟩ := e
  exact lv_iadd C.1 C.2.1 hd (k C H locs lsc hH hl)
theorem r_isub {x y : Int32} (e : dk μ pc .isub 1 npc) (k : G Y ad μ npc ls (.int (x - y) :: st) h) : G Y ad μ pc ls (.int y :: .int x :: st) h := by
  intro C H locs lsc hH hl
  obtain ⟨hd, rfl⟩ := e
  exact lv_isub C.1 C.2.1 hd (k C H locs lsc hH hl)
theorem r_imul {x y : Int32} (e : dk μ pc .imul 1 npc) (k : G Y ad μ npc ls (.int (x * y) :: st) h) : G Y ad μ pc ls (.int y :: .int x :: st) h := by
  intro C H locs lsc hH hl
  obtain ⟨hd, rfl⟩ := e
  exact lv_imul C.1 C.2.1 hd (k C H locs lsc hH hl)
theorem r_iand {x y : Int32} (e : dk μ pc .iand 1 npc) (k : G Y ad μ npc ls (.int (x &&& y) :: st) h) : G Y ad μ pc ls (.int y :: .int x :: st) h := by
  intro C H locs lsc hH hl
  obtain ⟨hd, rfl⟩ := e
  exact lv_iand C.1 C.2.1 hd (k C H locs lsc hH hl)
theorem r_ior {x y : Int32} (e : dk μ pc .ior 1 npc) (k : G Y ad μ npc ls (.int (x ||| y) :: st) h) : G Y ad μ pc ls (.int y :: .int x :: st) h := by
  intro C H locs lsc hH hl
  obtain ⟨hd, rfl⟩ := e
  exact lv_ior C.1 C.2.1 hd (k C H locs lsc hH hl)
theorem r_ixor {x y : Int32} (e : dk μ pc .ixor 1 npc) (k : G Y ad μ npc ls (.int (x ^^^ y) :: st) h) : G Y ad μ pc ls (.int y :: .int x :: st) h := by
  intro C H locs lsc hH hl
  obtain ⟨hd, rfl⟩ := e
  exact lv_ixor C.1 C.2.1 hd (k C H locs lsc hH hl)
theorem r_ishl {x y : Int32} (e : dk μ pc .ishl 1 npc) (k : G Y ad μ npc ls (.int (x <<< (y &&& 31)) :: st) h) : G Y ad μ pc ls (.int y :: .int x :: st) h := by
  intro C H locs lsc hH hl
  obtain ⟨hd, rfl⟩ := e
  exact lv_ishl C.1 C.2.1 hd (k C H locs lsc hH hl)
theorem r_ishr {x y : Int32} (e : dk μ pc .ishr 1 npc) (k : G Y ad μ npc ls (.int (x >>> (y &&& 31)) :: st) h) : G Y ad μ pc ls (.int y :: .int x :: st) h := by
  intro C H locs lsc hH hl
  obtain ⟨hd, rfl⟩ := e
  exact lv_ishr C.1 C.2.1 hd (k C H locs lsc hH hl)
theorem r_ladd {x y : Int64} (e : dk μ pc .ladd 1 npc) (k : G Y ad μ npc ls (.long (x + y) :: st) h) : G Y ad μ pc ls (.long y :: .long x :: st) h := by
  intro C H locs lsc hH hl
  obtain ⟨hd, rfl⟩ := e
  exact lv_ladd C.1 C.2.1 hd (k C H locs lsc hH hl)
theorem r_lsub {x y : Int64} (e : dk μ pc .lsub 1 npc) (k : G Y ad μ npc ls (.long (x - y) :: st) h) : G Y ad μ pc ls (.long y :: .long x :: st) h := by
  intro C H locs lsc hH hl
  obtain ⟨hd, rfl⟩ := e
  exact lv_lsub C.1 C.2.1 hd (k C H locs lsc hH hl)
theorem r_lmul {x y : Int64} (e : dk μ pc .lmul 1 npc) (k : G Y ad μ npc ls (.long (x * y) :: st) h) : G Y ad μ pc ls (.long y :: .long x :: st) h := by
  intro C H locs lsc hH hl
  obtain ⟨hd, rfl⟩ := e
  exact lv_lmul C.1 C.2.1 hd (k C H locs lsc hH hl)
theorem r_ldiv {x y : Int64} (e : dk μ pc .ldiv 1 npc) (hne : ¬ y = 0) (k : G Y ad μ npc ls (.long (x / y) :: st) h) : G Y ad μ pc ls (.long y :: .long x :: st) h := by
  intro C H locs lsc hH hl
  obtain ⟨hd, rfl⟩ := e
  exact lv_ldiv C.1 C.2.1 hd hne (k C H locs lsc hH hl)
theorem r_lrem {x y : Int64} (e : dk μ pc .lrem 1 npc) (hne : ¬ y = 0) (k : G Y ad μ npc ls (.long (x - x / y * y) :: st) h) : G Y ad μ pc ls (.long y :: .long x :: st) h := by
  intro C H locs lsc hH hl
  obtain ⟨hd, rfl⟩ := e
  exact lv_lrem C.1 C.2.1 hd hne (k C H locs lsc hH hl)
theorem r_lshl {x : Int64} {y : Int32} (e : dk μ pc .lshl 1 npc) (k : G Y ad μ npc ls (.long (x <<< (y.toInt64 &&& 63)) :: st) h) : G Y ad μ pc ls (.int y :: .long x :: st) h := by
  intro C H locs lsc hH hl
  obtain ⟨hd, rfl⟩ := e
  exact lv_lshl C.1 C.2.1 hd rfl (k C H locs lsc hH hl)
theorem r_i2l {x : Int32} (e : dk μ pc .i2l 1 npc) (k : G Y ad μ npc ls (.long x.toInt64 :: st) h) : G Y ad μ pc ls (.int x :: st) h := by
  intro C H locs lsc hH hl
  obtain ⟨hd, rfl⟩ := e
  exact lv_i2l C.1 C.2.1 hd rfl (k C H locs lsc hH hl)
theorem r_lcmp {x y : Int64} (e : dk μ pc .lcmp 1 npc) (k : G Y ad μ npc ls (.int (lg_cmp x y) :: st) h) : G Y ad μ pc ls (.long y :: .long x :: st) h := by
  intro C H locs lsc hH hl
  obtain ⟨hd, rfl⟩ := e
  exact W.lcmp C.1 C.2.1 hd (k C H locs lsc hH hl)
theorem r_dup {v : Value} (e : dk μ pc .dup 1 npc) (hv : v.category = 1) (k : G Y ad μ npc ls (v :: v :: st) h) : G Y ad μ pc ls (v :: st) h := by
  intro C H locs lsc hH hl
  obtain ⟨hd, rfl⟩ := e
  exact lv_dup C.1 C.2.1 hd hv (k C H locs lsc hH hl)
theorem r_pop {v : Value} (e : dk μ pc .pop 1 npc) (hv : v.category = 1) (k : G Y ad μ npc ls (st) h) : G Y ad μ pc ls (v :: st) h := by
  intro C H locs lsc hH hl
  obtain ⟨hd, rfl⟩ := e
  exact lv_pop C.1 C.2.1 hd hv (k C H locs lsc hH hl)
theorem r_dup2 {v w : Value} (e : dk μ pc .dup2 1 npc) (hv : v.category = 1) (hw : w.category = 1) (k : G Y ad μ npc ls (v :: w :: v :: w :: st) h) : G Y ad μ pc ls (v :: w :: st) h := by
  intro C H locs lsc hH hl
  obtain ⟨hd, rfl⟩ := e
  exact lv_dup2_11 C.1 C.2.1 hd hv hw (k C H locs lsc hH hl)
theorem r_dup2l {v : Value} (e : dk μ pc .dup2 1 npc) (hv : v.category = 2) (k : G Y ad μ npc ls (v :: v :: st) h) : G Y ad μ pc ls (v :: st) h := by
  intro C H locs lsc hH hl
  obtain ⟨hd, rfl⟩ := e
  exact lv_dup2_2 C.1 C.2.1 hd hv (k C H locs lsc hH hl)
theorem r_iaddN {a b : Nat} (e : dk μ pc .iadd 1 npc) (k : G Y ad μ npc ls (.int (nI (a + b)) :: st) h) : G Y ad μ pc ls (.int (nI b) :: .int (nI a) :: st) h := r_iadd e (by rw [nI_add]; exact k)
theorem r_isubN {a b : Nat} (e : dk μ pc .isub 1 npc) (hle : b ≤ a) (k : G Y ad μ npc ls (.int (nI (a - b)) :: st) h) : G Y ad μ pc ls (.int (nI b) :: .int (nI a) :: st) h := r_isub e (by rw [pk_sub hle]; exact k)
theorem r_imulN {a b : Nat} (e : dk μ pc .imul 1 npc) (k : G Y ad μ npc ls (.int (nI (a * b)) :: st) h) : G Y ad μ pc ls (.int (nI b) :: .int (nI a) :: st) h := r_imul e (by rw [pk_mul]; exact k)
theorem r_laddN {a b : Nat} (e : dk μ pc .ladd 1 npc) (k : G Y ad μ npc ls (.long (lN (a + b)) :: st) h) : G Y ad μ pc ls (.long (lN b) :: .long (lN a) :: st) h := r_ladd e (by rw [lN_add]; exact k)
theorem r_lsubN {a b : Nat} (e : dk μ pc .lsub 1 npc) (hle : b ≤ a) (k : G Y ad μ npc ls (.long (lN (a - b)) :: st) h) : G Y ad μ pc ls (.long (lN b) :: .long (lN a) :: st) h := r_lsub e (by rw [lN_sub hle]; exact k)
theorem r_lmulN {a b : Nat} (e : dk μ pc .lmul 1 npc) (k : G Y ad μ npc ls (.long (lN (a * b)) :: st) h) : G Y ad μ pc ls (.long (lN b) :: .long (lN a) :: st) h := r_lmul e (by rw [lN_mul]; exact k)
theorem lN_ne0 {b : Nat} (h0 : 0 < b) (hb : b < 2 ^ 63) : ¬ lN b = 0 := fun q => by
  have := (pk_lEQ hb (by decide : 0 < 2 ^ 63)).mp (q.trans (by decide : (0 : Int64) = lN 0))
  omega
theorem r_ldivN {a b : Nat} (e : dk μ pc .ldiv 1 npc) (ha : a < 2 ^ 63) (h0 : 0 < b) (hb : b < 2 ^ 63) (k : G Y ad μ npc ls (.long (lN (a / b)) :: st) h) : G Y ad μ pc ls (.long (lN b) :: .long (lN a) :: st) h := r_ldiv e (lN_ne0 h0 hb) (by rw [pk_lDiv ha h0 hb]; exact k)
theorem r_lremN {a b : Nat} (e : dk μ pc .lrem 1 npc) (ha : a < 2 ^ 63) (h0 : 0 < b) (hb : b < 2 ^ 63) (k : G Y ad μ npc ls (.long (lN (a % b)) :: st) h) : G Y ad μ pc ls (.long (lN b) :: .long (lN a) :: st) h := r_lrem e (lN_ne0 h0 hb) (by rw [pk_lRem ha h0 hb]; exact k)
theorem r_i2lN {a : Nat} (e : dk μ pc .i2l 1 npc) (ha : a < 2147483648 := by omega) (k : G Y ad μ npc ls (.long (lN a) :: st) h) : G Y ad μ pc ls (.int (nI a) :: st) h := r_i2l e (by rw [nI_l (show a < 2 ^ 31 from ha)]; exact k)
theorem r_ki {v : Int32} (e : dKi μ pc v npc) (k : G Y ad μ npc ls (.int v :: st) h) : G Y ad μ pc ls st h := by
  intro C H locs lsc hH hl
  rcases e with ⟨n, hd, hv, rfl⟩ | ⟨n, hd, hv, rfl⟩ | ⟨n, hd, hv, rfl⟩ | ⟨ix, hd, hw, rfl⟩
  · exact lv_iconst C.1 C.2.1 hd hv (k C H locs lsc hH hl)
  · exact lv_bipush C.1 C.2.1 hd hv (k C H locs lsc hH hl)
  · exact lv_sipush C.1 C.2.1 hd hv (k C H locs lsc hH hl)
  · exact lv_ldc C.1 C.2.1 C.2.2.2.2.1 (C.2.2.2.2.2.1 _ (gW hw rfl)) hd (k C H locs lsc hH hl)
theorem r_kl {v : Int64} (e : dKl μ pc v npc) (k : G Y ad μ npc ls (.long v :: st) h) : G Y ad μ pc ls st h := by
  intro C H locs lsc hH hl
  rcases e with ⟨n, hd, hv, rfl⟩ | ⟨ix, hd, hw, rfl⟩
  · exact lv_lconst C.1 C.2.1 hd hv (k C H locs lsc hH hl)
  · exact lv_ldc2 C.1 C.2.1 C.2.2.2.2.1 (C.2.2.2.2.2.1 _ (gW hw rfl)) hd (k C H locs lsc hH hl)
theorem r_il {i : Nat} {x : Int32} (e : dIl μ pc i npc) (hx : ls[i]? = some (some (.int x))) (k : G Y ad μ npc ls (.int x :: st) h) : G Y ad μ pc ls st h := by
  intro C H locs lsc hH hl
  have hx' : lsc[i]? = some (.val (.int x)) := hl.2.2 _ (lvp_get hx)
  rcases e with ⟨n, hd, hi, rfl⟩ | ⟨hd, rfl⟩
  · exact lv_iload_n C.1 C.2.1 hd hi hx' (k C H locs lsc hH hl)
  · exact lv_iload C.1 C.2.1 hd hx' (k C H locs lsc hH hl)
theorem r_ll {i : Nat} {x : Int64} (e : dLl μ pc i npc) (hx : ls[i]? = some (some (.long x))) (k : G Y ad μ npc ls (.long x :: st) h) : G Y ad μ pc ls st h := by
  intro C H locs lsc hH hl
  have hx' : lsc[i]? = some (.val (.long x)) := hl.2.2 _ (lvp_get hx)
  rcases e with ⟨n, hd, hi, rfl⟩ | ⟨hd, rfl⟩
  · exact lv_lload_n C.1 C.2.1 hd hi hx' (k C H locs lsc hH hl)
  · exact lv_lload C.1 C.2.1 hd hx' (k C H locs lsc hH hl)
theorem r_al {i : Nat} {x : Nat} (e : dAl μ pc i npc) (hx : ls[i]? = some (some (.ref x))) (k : G Y ad μ npc ls (.ref x :: st) h) : G Y ad μ pc ls st h := by
  intro C H locs lsc hH hl
  have hx' : lsc[i]? = some (.val (.ref x)) := hl.2.2 _ (lvp_get hx)
  rcases e with ⟨n, hd, hi, rfl⟩ | ⟨hd, rfl⟩
  · exact lv_aload_n C.1 C.2.1 hd hi hx' (k C H locs lsc hH hl)
  · exact lv_aload C.1 C.2.1 hd hx' (k C H locs lsc hH hl)
/-- what a store leaves -/
def ls1 (ls ls' : List (Option Value)) (i : Nat) (v : Value) : Prop := ∀ (j : Nat) (w : Value), ls'[j]? = some (some w) → (j = i ∧ w = v) ∨ (j ≠ i ∧ ls[j]? = some (some w) ∧ ¬ (j + 1 = i ∧ w.category = 2))
def ls2 (ls ls' : List (Option Value)) (i : Nat) (v : Value) : Prop := ∀ (j : Nat) (w : Value), ls'[j]? = some (some w) → (j = i ∧ w = v) ∨ (j ≠ i ∧ j ≠ i + 1 ∧ ls[j]? = some (some w) ∧ ¬ (j + 1 = i ∧ w.category = 2))
theorem ls1_lv {ls ls' : List (Option Value)} {i : Nat} {v : Value} (hs : ls1 ls ls' i v) : ∀ q ∈ lvp 0 ls', q ∈ (i, v) :: (lvp 0 ls).filter (fun q => !(q.1 == i) && !(q.1 + 1 == i && q.2.category == 2)) := by
  intro q hq
  obtain ⟨j, w⟩ := q
  have h1 := ((lvp_mem ls' 0 (j, w)).mp hq).2
  rcases hs j w h1 with ⟨rfl, rfl⟩ | ⟨a, b, c⟩
  · exact List.mem_cons_self
  · refine List.mem_cons_of_mem _ (List.mem_filter.mpr ⟨lvp_get b, ?_⟩)
    simp only [Bool.and_eq_true, Bool.not_eq_true', beq_eq_false_iff_ne, ne_eq, Bool.and_eq_false_iff]
    exact ⟨a, (Classical.em (j + 1 = i)).elim (fun z => Or.inr (fun y => c ⟨z, y⟩)) Or.inl⟩
theorem ls2_lv {ls ls' : List (Option Value)} {i : Nat} {v : Value} (hs : ls2 ls ls' i v) : ∀ q ∈ lvp 0 ls', q ∈ (i, v) :: (lvp 0 ls).filter (fun q => !(q.1 == i) && (!(q.1 == i + 1) && !(q.1 + 1 == i && q.2.category == 2))) := by
  intro q hq
  obtain ⟨j, w⟩ := q
  have h1 := ((lvp_mem ls' 0 (j, w)).mp hq).2
  rcases hs j w h1 with ⟨rfl, rfl⟩ | ⟨a, a2, b, c⟩
  · exact List.mem_cons_self
  · refine List.mem_cons_of_mem _ (List.mem_filter.mpr ⟨lvp_get b, ?_⟩)
    simp only [Bool.and_eq_true, Bool.not_eq_true', beq_eq_false_iff_ne, ne_eq, Bool.and_eq_false_iff]
    exact ⟨a, a2, (Classical.em (j + 1 = i)).elim (fun z => Or.inr (fun y => c ⟨z, y⟩)) Or.inl⟩
theorem r_is {i : Nat} {x : Int32} {ls' : List (Option Value)} (e : dIs μ pc i npc) (hs : ls1 ls ls' i (.int x)) (k : G Y ad μ npc ls' st h) : G Y ad μ pc ls (.int x :: st) h := by
  intro C H locs lsc hH hl
  obtain ⟨e, hi⟩ := e
  rcases e with ⟨n, hd, hn, rfl⟩ | ⟨hd, rfl⟩
  · exact lv_istore_n C.1 C.2.1 hd hn hl hi rfl (fun lsc' hl' => k C H locs lsc' hH (lvh_mono hl' (ls1_lv hs)))
  · exact lv_istore C.1 C.2.1 hd hl hi rfl (fun lsc' hl' => k C H locs lsc' hH (lvh_mono hl' (ls1_lv hs)))
theorem r_ls {i : Nat} {x : Int64} {ls' : List (Option Value)} (e : dLs μ pc i npc) (hs : ls2 ls ls' i (.long x)) (k : G Y ad μ npc ls' st h) : G Y ad μ pc ls (.long x :: st) h := by
  intro C H locs lsc hH hl
  obtain ⟨e, hi⟩ := e
  rcases e with ⟨n, hd, hn, rfl⟩ | ⟨hd, rfl⟩
  · exact lv_lstore_n C.1 C.2.1 hd hn hl hi rfl (fun lsc' hl' => k C H locs lsc' hH (lvh_mono hl' (ls2_lv hs)))
  · exact lv_lstore C.1 C.2.1 hd hl hi rfl (fun lsc' hl' => k C H locs lsc' hH (lvh_mono hl' (ls2_lv hs)))
theorem r_as {i : Nat} {x : Nat} {ls' : List (Option Value)} (e : dAs μ pc i npc) (hs : ls1 ls ls' i (.ref x)) (k : G Y ad μ npc ls' st h) : G Y ad μ pc ls (.ref x :: st) h := by
  intro C H locs lsc hH hl
  obtain ⟨e, hi⟩ := e
  rcases e with ⟨n, hd, hn, rfl⟩ | ⟨hd, rfl⟩
  · exact lv_astore_n C.1 C.2.1 hd hn hl hi rfl (fun lsc' hl' => k C H locs lsc' hH (lvh_mono hl' (ls1_lv hs)))
  · exact lv_astore C.1 C.2.1 hd hl hi rfl (fun lsc' hl' => k C H locs lsc' hH (lvh_mono hl' (ls1_lv hs)))
theorem r_in {i : Nat} {x n : Int32} {ls' : List (Option Value)} (e : dIn μ pc i n npc) (hx : ls[i]? = some (some (.int x))) (hs : ls1 ls ls' i (.int (x + n))) (k : G Y ad μ npc ls' st h) : G Y ad μ pc ls st h := by
  intro C H locs lsc hH hl
  obtain ⟨m, hd, hm, rfl, hi⟩ := e
  obtain ⟨k0, hk0⟩ := List.getElem?_of_mem (lvp_get hx)
  exact lv_iinc C.1 C.2.1 hd hl hk0 (by rw [hm]) hi rfl (fun lsc' hl' => k C H locs lsc' hH (lvh_mono hl' (ls1_lv hs)))
/-- fewer locals are known -/
theorem r_lo {ls' : List (Option Value)} (hs : ∀ (j : Nat) (w : Value), ls'[j]? = some (some w) → ls[j]? = some (some w)) (k : G Y ad μ pc ls' st h) : G Y ad μ pc ls st h := by
  intro C H locs lsc hH hl
  exact k C H locs lsc hH (lvh_mono hl (fun q hq => lvp_get (hs q.1 q.2 ((lvp_mem ls' 0 q).mp hq).2)))
/-- no value of two words -/
def nlg (o : Option Value) : Bool := match o with
  | some (.long _) => false
  | some (.double _) => false
  | _ => true
theorem nlg_c {o : Option Value} (h : nlg o = true) {w : Value} (hw : o = some w) : ¬ w.category = 2 := by
  subst hw
  cases w <;> simp [nlg, Value.category] at h ⊢
theorem ls1_0 { oo : Option Value} {t : List (Option Value)} {v : Value} : ls1 (oo :: t) (some v :: t) 0 v := by
  intro j w hj
  cases j with
  | zero => simp at hj; exact Or.inl ⟨rfl, hj.symm⟩
  | succ j => exact Or.inr ⟨by omega, hj, by omega⟩
theorem ls2_0 { oo op : Option Value} {t : List (Option Value)} {v : Value} : ls2 (oo :: op :: t) (some v :: none :: t) 0 v := by
  intro j w hj
  match j, hj with
  | 0, hj => simp at hj; exact Or.inl ⟨rfl, hj.symm⟩
  | 1, hj => simp at hj
  | j + 2, hj => exact Or.inr ⟨by omega, by omega, hj, by omega⟩
theorem r_is0 {x : Int32} { oo : Option Value} {t : List (Option Value)} (e : dIs μ pc 0 npc) (k : G Y ad μ npc (some (.int x) :: t) st h) : G Y ad μ pc (oo :: t) (.int x :: st) h := r_is e (ls1_0) k
theorem r_as0 {x : Nat} { oo : Option Value} {t : List (Option Value)} (e : dAs μ pc 0 npc) (k : G Y ad μ npc (some (.ref x) :: t) st h) : G Y ad μ pc (oo :: t) (.ref x :: st) h := r_as e (ls1_0) k
theorem r_ls0 {x : Int64} { oo op : Option Value} {t : List (Option Value)} (e : dLs μ pc 0 npc) (k : G Y ad μ npc (some (.long x) :: none :: t) st h) : G Y ad μ pc (oo :: op :: t) (.long x :: st) h := r_ls e (ls2_0) k
theorem r_in0 {a b : Nat} {t : List (Option Value)} (e : dIn μ pc 0 (nI b) npc) (k : G Y ad μ npc (some (.int (nI (a + b))) :: t) st h) : G Y ad μ pc (some (.int (nI a)) :: t) st h := r_in e rfl (by rw [nI_add]; exact ls1_0) k
theorem r_f0 {oo : Option Value} {t : List (Option Value)} (k : G Y ad μ pc (none :: t) st h) : G Y ad μ pc (oo :: t) st h := r_lo (by
  intro j w hj
  cases j with
  | zero => simp at hj
  | succ j => exact hj) k
theorem ls1_1 {o0 oo : Option Value} {t : List (Option Value)} {v : Value} (hn : nlg o0 = true) : ls1 (o0 :: oo :: t) (o0 :: some v :: t) 1 v := by
  intro j w hj
  match j, hj with
  | 0, hj => exact Or.inr ⟨by omega, hj, fun z => nlg_c hn (Option.some.inj hj) z.2⟩
  | 1, hj => exact Or.inl ⟨rfl, (Option.some.inj (Option.some.inj hj)).symm⟩
  | j + 2, hj => exact Or.inr ⟨by omega, hj, by omega⟩
theorem ls2_1 {o0 oo op : Option Value} {t : List (Option Value)} {v : Value} (hn : nlg o0 = true) : ls2 (o0 :: oo :: op :: t) (o0 :: some v :: none :: t) 1 v := by
  intro j w hj
  match j, hj with
  | 0, hj => exact Or.inr ⟨by omega, by omega, hj, fun z => nlg_c hn (Option.some.inj hj) z.2⟩
  | 1, hj => exact Or.inl ⟨rfl, (Option.some.inj (Option.some.inj hj)).symm⟩
  | 2, hj => simp at hj
  | j + 3, hj => exact Or.inr ⟨by omega, by omega, hj, by omega⟩
theorem r_is1 {x : Int32} {o0 oo : Option Value} {t : List (Option Value)} (e : dIs μ pc 1 npc) (hn : nlg o0 = true) (k : G Y ad μ npc (o0 :: some (.int x) :: t) st h) : G Y ad μ pc (o0 :: oo :: t) (.int x :: st) h := r_is e (ls1_1 hn) k
theorem r_as1 {x : Nat} {o0 oo : Option Value} {t : List (Option Value)} (e : dAs μ pc 1 npc) (hn : nlg o0 = true) (k : G Y ad μ npc (o0 :: some (.ref x) :: t) st h) : G Y ad μ pc (o0 :: oo :: t) (.ref x :: st) h := r_as e (ls1_1 hn) k
theorem r_ls1 {x : Int64} {o0 oo op : Option Value} {t : List (Option Value)} (e : dLs μ pc 1 npc) (hn : nlg o0 = true) (k : G Y ad μ npc (o0 :: some (.long x) :: none :: t) st h) : G Y ad μ pc (o0 :: oo :: op :: t) (.long x :: st) h := r_ls e (ls2_1 hn) k
theorem r_in1 {a b : Nat} {o0 : Option Value} {t : List (Option Value)} (e : dIn μ pc 1 (nI b) npc) (hn : nlg o0 = true) (k : G Y ad μ npc (o0 :: some (.int (nI (a + b))) :: t) st h) : G Y ad μ pc (o0 :: some (.int (nI a)) :: t) st h := r_in e rfl (by rw [nI_add]; exact ls1_1 hn) k
theorem r_f1 {o0 oo : Option Value} {t : List (Option Value)} (k : G Y ad μ pc (o0 :: none :: t) st h) : G Y ad μ pc (o0 :: oo :: t) st h := r_lo (by
  intro j w hj
  match j, hj with
  | 0, hj => exact hj
  | 1, hj => simp at hj
  | j + 2, hj => exact hj) k
theorem ls1_2 {o0 o1 oo : Option Value} {t : List (Option Value)} {v : Value} (hn : nlg o1 = true) : ls1 (o0 :: o1 :: oo :: t) (o0 :: o1 :: some v :: t) 2 v := by
  intro j w hj
  match j, hj with
  | 0, hj => exact Or.inr ⟨by omega, hj, by omega⟩
  | 1, hj => exact Or.inr ⟨by omega, hj, fun z => nlg_c hn (Option.some.inj hj) z.2⟩
  | 2, hj => exact Or.inl ⟨rfl, (Option.some.inj (Option.some.inj hj)).symm⟩
  | j + 3, hj => exact Or.inr ⟨by omega, hj, by omega⟩
theorem ls2_2 {o0 o1 oo op : Option Value} {t : List (Option Value)} {v : Value} (hn : nlg o1 = true) : ls2 (o0 :: o1 :: oo :: op :: t) (o0 :: o1 :: some v :: none :: t) 2 v := by
  intro j w hj
  match j, hj with
  | 0, hj => exact Or.inr ⟨by omega, by omega, hj, by omega⟩
  | 1, hj => exact Or.inr ⟨by omega, by omega, hj, fun z => nlg_c hn (Option.some.inj hj) z.2⟩
  | 2, hj => exact Or.inl ⟨rfl, (Option.some.inj (Option.some.inj hj)).symm⟩
  | 3, hj => simp at hj
  | j + 4, hj => exact Or.inr ⟨by omega, by omega, hj, by omega⟩
theorem r_is2 {x : Int32} {o0 o1 oo : Option Value} {t : List (Option Value)} (e : dIs μ pc 2 npc) (hn : nlg o1 = true) (k : G Y ad μ npc (o0 :: o1 :: some (.int x) :: t) st h) : G Y ad μ pc (o0 :: o1 :: oo :: t) (.int x :: st) h := r_is e (ls1_2 hn) k
theorem r_as2 {x : Nat} {o0 o1 oo : Option Value} {t : List (Option Value)} (e : dAs μ pc 2 npc) (hn : nlg o1 = true) (k : G Y ad μ npc (o0 :: o1 :: some (.ref x) :: t) st h) : G Y ad μ pc (o0 :: o1 :: oo :: t) (.ref x :: st) h := r_as e (ls1_2 hn) k
theorem r_ls2 {x : Int64} {o0 o1 oo op : Option Value} {t : List (Option Value)} (e : dLs μ pc 2 npc) (hn : nlg o1 = true) (k : G Y ad μ npc (o0 :: o1 :: some (.long x) :: none :: t) st h) : G Y ad μ pc (o0 :: o1 :: oo :: op :: t) (.long x :: st) h := r_ls e (ls2_2 hn) k
theorem r_in2 {a b : Nat} {o0 o1 : Option Value} {t : List (Option Value)} (e : dIn μ pc 2 (nI b) npc) (hn : nlg o1 = true) (k : G Y ad μ npc (o0 :: o1 :: some (.int (nI (a + b))) :: t) st h) : G Y ad μ pc (o0 :: o1 :: some (.int (nI a)) :: t) st h := r_in e rfl (by rw [nI_add]; exact ls1_2 hn) k
theorem r_f2 {o0 o1 oo : Option Value} {t : List (Option Value)} (k : G Y ad μ pc (o0 :: o1 :: none :: t) st h) : G Y ad μ pc (o0 :: o1 :: oo :: t) st h := r_lo (by
  intro j w hj
  match j, hj with
  | 0, hj => exact hj
  | 1, hj => exact hj
  | 2, hj => simp at hj
  | j + 3, hj => exact hj) k
theorem ls1_3 {o0 o1 o2 oo : Option Value} {t : List (Option Value)} {v : Value} (hn : nlg o2 = true) : ls1 (o0 :: o1 :: o2 :: oo :: t) (o0 :: o1 :: o2 :: some v :: t) 3 v := by
  intro j w hj
  match j, hj with
  | 0, hj => exact Or.inr ⟨by omega, hj, by omega⟩
  | 1, hj => exact Or.inr ⟨by omega, hj, by omega⟩
  | 2, hj => exact Or.inr ⟨by omega, hj, fun z => nlg_c hn (Option.some.inj hj) z.2⟩
  | 3, hj => exact Or.inl ⟨rfl, (Option.some.inj (Option.some.inj hj)).symm⟩
  | j + 4, hj => exact Or.inr ⟨by omega, hj, by omega⟩
theorem ls2_3 {o0 o1 o2 oo op : Option Value} {t : List (Option Value)} {v : Value} (hn : nlg o2 = true) : ls2 (o0 :: o1 :: o2 :: oo :: op :: t) (o0 :: o1 :: o2 :: some v :: none :: t) 3 v := by
  intro j w hj
  match j, hj with
  | 0, hj => exact Or.inr ⟨by omega, by omega, hj, by omega⟩
  | 1, hj => exact Or.inr ⟨by omega, by omega, hj, by omega⟩
  | 2, hj => exact Or.inr ⟨by omega, by omega, hj, fun z => nlg_c hn (Option.some.inj hj) z.2⟩
  | 3, hj => exact Or.inl ⟨rfl, (Option.some.inj (Option.some.inj hj)).symm⟩
  | 4, hj => simp at hj
  | j + 5, hj => exact Or.inr ⟨by omega, by omega, hj, by omega⟩
theorem r_is3 {x : Int32} {o0 o1 o2 oo : Option Value} {t : List (Option Value)} (e : dIs μ pc 3 npc) (hn : nlg o2 = true) (k : G Y ad μ npc (o0 :: o1 :: o2 :: some (.int x) :: t) st h) : G Y ad μ pc (o0 :: o1 :: o2 :: oo :: t) (.int x :: st) h := r_is e (ls1_3 hn) k
theorem r_as3 {x : Nat} {o0 o1 o2 oo : Option Value} {t : List (Option Value)} (e : dAs μ pc 3 npc) (hn : nlg o2 = true) (k : G Y ad μ npc (o0 :: o1 :: o2 :: some (.ref x) :: t) st h) : G Y ad μ pc (o0 :: o1 :: o2 :: oo :: t) (.ref x :: st) h := r_as e (ls1_3 hn) k
theorem r_ls3 {x : Int64} {o0 o1 o2 oo op : Option Value} {t : List (Option Value)} (e : dLs μ pc 3 npc) (hn : nlg o2 = true) (k : G Y ad μ npc (o0 :: o1 :: o2 :: some (.long x) :: none :: t) st h) : G Y ad μ pc (o0 :: o1 :: o2 :: oo :: op :: t) (.long x :: st) h := r_ls e (ls2_3 hn) k
theorem r_in3 {a b : Nat} {o0 o1 o2 : Option Value} {t : List (Option Value)} (e : dIn μ pc 3 (nI b) npc) (hn : nlg o2 = true) (k : G Y ad μ npc (o0 :: o1 :: o2 :: some (.int (nI (a + b))) :: t) st h) : G Y ad μ pc (o0 :: o1 :: o2 :: some (.int (nI a)) :: t) st h := r_in e rfl (by rw [nI_add]; exact ls1_3 hn) k
theorem r_f3 {o0 o1 o2 oo : Option Value} {t : List (Option Value)} (k : G Y ad μ pc (o0 :: o1 :: o2 :: none :: t) st h) : G Y ad μ pc (o0 :: o1 :: o2 :: oo :: t) st h := r_lo (by
  intro j w hj
  match j, hj with
  | 0, hj => exact hj
  | 1, hj => exact hj
  | 2, hj => exact hj
  | 3, hj => simp at hj
  | j + 4, hj => exact hj) k
theorem ls1_4 {o0 o1 o2 o3 oo : Option Value} {t : List (Option Value)} {v : Value} (hn : nlg o3 = true) : ls1 (o0 :: o1 :: o2 :: o3 :: oo :: t) (o0 :: o1 :: o2 :: o3 :: some v :: t) 4 v := by
  intro j w hj
  match j, hj with
  | 0, hj => exact Or.inr ⟨by omega, hj, by omega⟩
  | 1, hj => exact Or.inr ⟨by omega, hj, by omega⟩
  | 2, hj => exact Or.inr ⟨by omega, hj, by omega⟩
  | 3, hj => exact Or.inr ⟨by omega, hj, fun z => nlg_c hn (Option.some.inj hj) z.2⟩
  | 4, hj => exact Or.inl ⟨rfl, (Option.some.inj (Option.some.inj hj)).symm⟩
  | j + 5, hj => exact Or.inr ⟨by omega, hj, by omega⟩
theorem ls2_4 {o0 o1 o2 o3 oo op : Option Value} {t : List (Option Value)} {v : Value} (hn : nlg o3 = true) : ls2 (o0 :: o1 :: o2 :: o3 :: oo :: op :: t) (o0 :: o1 :: o2 :: o3 :: some v :: none :: t) 4 v := by
  intro j w hj
  match j, hj with
  | 0, hj => exact Or.inr ⟨by omega, by omega, hj, by omega⟩
  | 1, hj => exact Or.inr ⟨by omega, by omega, hj, by omega⟩
  | 2, hj => exact Or.inr ⟨by omega, by omega, hj, by omega⟩
  | 3, hj => exact Or.inr ⟨by omega, by omega, hj, fun z => nlg_c hn (Option.some.inj hj) z.2⟩
  | 4, hj => exact Or.inl ⟨rfl, (Option.some.inj (Option.some.inj hj)).symm⟩
  | 5, hj => simp at hj
  | j + 6, hj => exact Or.inr ⟨by omega, by omega, hj, by omega⟩
theorem r_is4 {x : Int32} {o0 o1 o2 o3 oo : Option Value} {t : List (Option Value)} (e : dIs μ pc 4 npc) (hn : nlg o3 = true) (k : G Y ad μ npc (o0 :: o1 :: o2 :: o3 :: some (.int x) :: t) st h) : G Y ad μ pc (o0 :: o1 :: o2 :: o3 :: oo :: t) (.int x :: st) h := r_is e (ls1_4 hn) k
theorem r_as4 {x : Nat} {o0 o1 o2 o3 oo : Option Value} {t : List (Option Value)} (e : dAs μ pc 4 npc) (hn : nlg o3 = true) (k : G Y ad μ npc (o0 :: o1 :: o2 :: o3 :: some (.ref x) :: t) st h) : G Y ad μ pc (o0 :: o1 :: o2 :: o3 :: oo :: t) (.ref x :: st) h := r_as e (ls1_4 hn) k
theorem r_ls4 {x : Int64} {o0 o1 o2 o3 oo op : Option Value} {t : List (Option Value)} (e : dLs μ pc 4 npc) (hn : nlg o3 = true) (k : G Y ad μ npc (o0 :: o1 :: o2 :: o3 :: some (.long x) :: none :: t) st h) : G Y ad μ pc (o0 :: o1 :: o2 :: o3 :: oo :: op :: t) (.long x :: st) h := r_ls e (ls2_4 hn) k
theorem r_in4 {a b : Nat} {o0 o1 o2 o3 : Option Value} {t : List (Option Value)} (e : dIn μ pc 4 (nI b) npc) (hn : nlg o3 = true) (k : G Y ad μ npc (o0 :: o1 :: o2 :: o3 :: some (.int (nI (a + b))) :: t) st h) : G Y ad μ pc (o0 :: o1 :: o2 :: o3 :: some (.int (nI a)) :: t) st h := r_in e rfl (by rw [nI_add]; exact ls1_4 hn) k
theorem r_f4 {o0 o1 o2 o3 oo : Option Value} {t : List (Option Value)} (k : G Y ad μ pc (o0 :: o1 :: o2 :: o3 :: none :: t) st h) : G Y ad μ pc (o0 :: o1 :: o2 :: o3 :: oo :: t) st h := r_lo (by
  intro j w hj
  match j, hj with
  | 0, hj => exact hj
  | 1, hj => exact hj
  | 2, hj => exact hj
  | 3, hj => exact hj
  | 4, hj => simp at hj
  | j + 5, hj => exact hj) k
theorem ls1_5 {o0 o1 o2 o3 o4 oo : Option Value} {t : List (Option Value)} {v : Value} (hn : nlg o4 = true) : ls1 (o0 :: o1 :: o2 :: o3 :: o4 :: oo :: t) (o0 :: o1 :: o2 :: o3 :: o4 :: some v :: t) 5 v := by
  intro j w hj
  match j, hj with
  | 0, hj => exact Or.inr ⟨by omega, hj, by omega⟩
  | 1, hj => exact Or.inr ⟨by omega, hj, by omega⟩
  | 2, hj => exact Or.inr ⟨by omega, hj, by omega⟩
  | 3, hj => exact Or.inr ⟨by omega, hj, by omega⟩
  | 4, hj => exact Or.inr ⟨by omega, hj, fun z => nlg_c hn (Option.some.inj hj) z.2⟩
  | 5, hj => exact Or.inl ⟨rfl, (Option.some.inj (Option.some.inj hj)).symm⟩
  | j + 6, hj => exact Or.inr ⟨by omega, hj, by omega⟩
theorem ls2_5 {o0 o1 o2 o3 o4 oo op : Option Value} {t : List (Option Value)} {v : Value} (hn : nlg o4 = true) : ls2 (o0 :: o1 :: o2 :: o3 :: o4 :: oo :: op :: t) (o0 :: o1 :: o2 :: o3 :: o4 :: some v :: none :: t) 5 v := by
  intro j w hj
  match j, hj with
  | 0, hj => exact Or.inr ⟨by omega, by omega, hj, by omega⟩
  | 1, hj => exact Or.inr ⟨by omega, by omega, hj, by omega⟩
  | 2, hj => exact Or.inr ⟨by omega, by omega, hj, by omega⟩
  | 3, hj => exact Or.inr ⟨by omega, by omega, hj, by omega⟩
  | 4, hj => exact Or.inr ⟨by omega, by omega, hj, fun z => nlg_c hn (Option.some.inj hj) z.2⟩
  | 5, hj => exact Or.inl ⟨rfl, (Option.some.inj (Option.some.inj hj)).symm⟩
  | 6, hj => simp at hj
  | j + 7, hj => exact Or.inr ⟨by omega, by omega, hj, by omega⟩
theorem r_is5 {x : Int32} {o0 o1 o2 o3 o4 oo : Option Value} {t : List (Option Value)} (e : dIs μ pc 5 npc) (hn : nlg o4 = true) (k : G Y ad μ npc (o0 :: o1 :: o2 :: o3 :: o4 :: some (.int x) :: t) st h) : G Y ad μ pc (o0 :: o1 :: o2 :: o3 :: o4 :: oo :: t) (.int x :: st) h := r_is e (ls1_5 hn) k
theorem r_as5 {x : Nat} {o0 o1 o2 o3 o4 oo : Option Value} {t : List (Option Value)} (e : dAs μ pc 5 npc) (hn : nlg o4 = true) (k : G Y ad μ npc (o0 :: o1 :: o2 :: o3 :: o4 :: some (.ref x) :: t) st h) : G Y ad μ pc (o0 :: o1 :: o2 :: o3 :: o4 :: oo :: t) (.ref x :: st) h := r_as e (ls1_5 hn) k
theorem r_ls5 {x : Int64} {o0 o1 o2 o3 o4 oo op : Option Value} {t : List (Option Value)} (e : dLs μ pc 5 npc) (hn : nlg o4 = true) (k : G Y ad μ npc (o0 :: o1 :: o2 :: o3 :: o4 :: some (.long x) :: none :: t) st h) : G Y ad μ pc (o0 :: o1 :: o2 :: o3 :: o4 :: oo :: op :: t) (.long x :: st) h := r_ls e (ls2_5 hn) k
theorem r_in5 {a b : Nat} {o0 o1 o2 o3 o4 : Option Value} {t : List (Option Value)} (e : dIn μ pc 5 (nI b) npc) (hn : nlg o4 = true) (k : G Y ad μ npc (o0 :: o1 :: o2 :: o3 :: o4 :: some (.int (nI (a + b))) :: t) st h) : G Y ad μ pc (o0 :: o1 :: o2 :: o3 :: o4 :: some (.int (nI a)) :: t) st h := r_in e rfl (by rw [nI_add]; exact ls1_5 hn) k
theorem r_f5 {o0 o1 o2 o3 o4 oo : Option Value} {t : List (Option Value)} (k : G Y ad μ pc (o0 :: o1 :: o2 :: o3 :: o4 :: none :: t) st h) : G Y ad μ pc (o0 :: o1 :: o2 :: o3 :: o4 :: oo :: t) st h := r_lo (by
  intro j w hj
  match j, hj with
  | 0, hj => exact hj
  | 1, hj => exact hj
  | 2, hj => exact hj
  | 3, hj => exact hj
  | 4, hj => exact hj
  | 5, hj => simp at hj
  | j + 6, hj => exact hj) k
theorem ls1_6 {o0 o1 o2 o3 o4 o5 oo : Option Value} {t : List (Option Value)} {v : Value} (hn : nlg o5 = true) : ls1 (o0 :: o1 :: o2 :: o3 :: o4 :: o5 :: oo :: t) (o0 :: o1 :: o2 :: o3 :: o4 :: o5 :: some v :: t) 6 v := by
  intro j w hj
  match j, hj with
  | 0, hj => exact Or.inr ⟨by omega, hj, by omega⟩
  | 1, hj => exact Or.inr ⟨by omega, hj, by omega⟩
  | 2, hj => exact Or.inr ⟨by omega, hj, by omega⟩
  | 3, hj => exact Or.inr ⟨by omega, hj, by omega⟩
  | 4, hj => exact Or.inr ⟨by omega, hj, by omega⟩
  | 5, hj => exact Or.inr ⟨by omega, hj, fun z => nlg_c hn (Option.some.inj hj) z.2⟩
  | 6, hj => exact Or.inl ⟨rfl, (Option.some.inj (Option.some.inj hj)).symm⟩
  | j + 7, hj => exact Or.inr ⟨by omega, hj, by omega⟩
theorem ls2_6 {o0 o1 o2 o3 o4 o5 oo op : Option Value} {t : List (Option Value)} {v : Value} (hn : nlg o5 = true) : ls2 (o0 :: o1 :: o2 :: o3 :: o4 :: o5 :: oo :: op :: t) (o0 :: o1 :: o2 :: o3 :: o4 :: o5 :: some v :: none :: t) 6 v := by
  intro j w hj
  match j, hj with
  | 0, hj => exact Or.inr ⟨by omega, by omega, hj, by omega⟩
  | 1, hj => exact Or.inr ⟨by omega, by omega, hj, by omega⟩
  | 2, hj => exact Or.inr ⟨by omega, by omega, hj, by omega⟩
  | 3, hj => exact Or.inr ⟨by omega, by omega, hj, by omega⟩
  | 4, hj => exact Or.inr ⟨by omega, by omega, hj, by omega⟩
  | 5, hj => exact Or.inr ⟨by omega, by omega, hj, fun z => nlg_c hn (Option.some.inj hj) z.2⟩
  | 6, hj => exact Or.inl ⟨rfl, (Option.some.inj (Option.some.inj hj)).symm⟩
  | 7, hj => simp at hj
  | j + 8, hj => exact Or.inr ⟨by omega, by omega, hj, by omega⟩
theorem r_is6 {x : Int32} {o0 o1 o2 o3 o4 o5 oo : Option Value} {t : List (Option Value)} (e : dIs μ pc 6 npc) (hn : nlg o5 = true) (k : G Y ad μ npc (o0 :: o1 :: o2 :: o3 :: o4 :: o5 :: some (.int x) :: t) st h) : G Y ad μ pc (o0 :: o1 :: o2 :: o3 :: o4 :: o5 :: oo :: t) (.int x :: st) h := r_is e (ls1_6 hn) k
theorem r_as6 {x : Nat} {o0 o1 o2 o3 o4 o5 oo : Option Value} {t : List (Option Value)} (e : dAs μ pc 6 npc) (hn : nlg o5 = true) (k : G Y ad μ npc (o0 :: o1 :: o2 :: o3 :: o4 :: o5 :: some (.ref x) :: t) st h) : G Y ad μ pc (o0 :: o1 :: o2 :: o3 :: o4 :: o5 :: oo :: t) (.ref x :: st) h := r_as e (ls1_6 hn) k
theorem r_ls6 {x : Int64} {o0 o1 o2 o3 o4 o5 oo op : Option Value} {t : List (Option Value)} (e : dLs μ pc 6 npc) (hn : nlg o5 = true) (k : G Y ad μ npc (o0 :: o1 :: o2 :: o3 :: o4 :: o5 :: some (.long x) :: none :: t) st h) : G Y ad μ pc (o0 :: o1 :: o2 :: o3 :: o4 :: o5 :: oo :: op :: t) (.long x :: st) h := r_ls e (ls2_6 hn) k
theorem r_in6 {a b : Nat} {o0 o1 o2 o3 o4 o5 : Option Value} {t : List (Option Value)} (e : dIn μ pc 6 (nI b) npc) (hn : nlg o5 = true) (k : G Y ad μ npc (o0 :: o1 :: o2 :: o3 :: o4 :: o5 :: some (.int (nI (a + b))) :: t) st h) : G Y ad μ pc (o0 :: o1 :: o2 :: o3 :: o4 :: o5 :: some (.int (nI a)) :: t) st h := r_in e rfl (by rw [nI_add]; exact ls1_6 hn) k
theorem r_f6 {o0 o1 o2 o3 o4 o5 oo : Option Value} {t : List (Option Value)} (k : G Y ad μ pc (o0 :: o1 :: o2 :: o3 :: o4 :: o5 :: none :: t) st h) : G Y ad μ pc (o0 :: o1 :: o2 :: o3 :: o4 :: o5 :: oo :: t) st h := r_lo (by
  intro j w hj
  match j, hj with
  | 0, hj => exact hj
  | 1, hj => exact hj
  | 2, hj => exact hj
  | 3, hj => exact hj
  | 4, hj => exact hj
  | 5, hj => exact hj
  | 6, hj => simp at hj
  | j + 7, hj => exact hj) k
theorem ls1_7 {o0 o1 o2 o3 o4 o5 o6 oo : Option Value} {t : List (Option Value)} {v : Value} (hn : nlg o6 = true) : ls1 (o0 :: o1 :: o2 :: o3 :: o4 :: o5 :: o6 :: oo :: t) (o0 :: o1 :: o2 :: o3 :: o4 :: o5 :: o6 :: some v :: t) 7 v := by
  intro j w hj
  match j, hj with
  | 0, hj => exact Or.inr ⟨by omega, hj, by omega⟩
  | 1, hj => exact Or.inr ⟨by omega, hj, by omega⟩
  | 2, hj => exact Or.inr ⟨by omega, hj, by omega⟩
  | 3, hj => exact Or.inr ⟨by omega, hj, by omega⟩
  | 4, hj => exact Or.inr ⟨by omega, hj, by omega⟩
  | 5, hj => exact Or.inr ⟨by omega, hj, by omega⟩
  | 6, hj => exact Or.inr ⟨by omega, hj, fun z => nlg_c hn (Option.some.inj hj) z.2⟩
  | 7, hj => exact Or.inl ⟨rfl, (Option.some.inj (Option.some.inj hj)).symm⟩
  | j + 8, hj => exact Or.inr ⟨by omega, hj, by omega⟩
theorem ls2_7 {o0 o1 o2 o3 o4 o5 o6 oo op : Option Value} {t : List (Option Value)} {v : Value} (hn : nlg o6 = true) : ls2 (o0 :: o1 :: o2 :: o3 :: o4 :: o5 :: o6 :: oo :: op :: t) (o0 :: o1 :: o2 :: o3 :: o4 :: o5 :: o6 :: some v :: none :: t) 7 v := by
  intro j w hj
  match j, hj with
  | 0, hj => exact Or.inr ⟨by omega, by omega, hj, by omega⟩
  | 1, hj => exact Or.inr ⟨by omega, by omega, hj, by omega⟩
  | 2, hj => exact Or.inr ⟨by omega, by omega, hj, by omega⟩
  | 3, hj => exact Or.inr ⟨by omega, by omega, hj, by omega⟩
  | 4, hj => exact Or.inr ⟨by omega, by omega, hj, by omega⟩
  | 5, hj => exact Or.inr ⟨by omega, by omega, hj, by omega⟩
  | 6, hj => exact Or.inr ⟨by omega, by omega, hj, fun z => nlg_c hn (Option.some.inj hj) z.2⟩
  | 7, hj => exact Or.inl ⟨rfl, (Option.some.inj (Option.some.inj hj)).symm⟩
  | 8, hj => simp at hj
  | j + 9, hj => exact Or.inr ⟨by omega, by omega, hj, by omega⟩
theorem r_is7 {x : Int32} {o0 o1 o2 o3 o4 o5 o6 oo : Option Value} {t : List (Option Value)} (e : dIs μ pc 7 npc) (hn : nlg o6 = true) (k : G Y ad μ npc (o0 :: o1 :: o2 :: o3 :: o4 :: o5 :: o6 :: some (.int x) :: t) st h) : G Y ad μ pc (o0 :: o1 :: o2 :: o3 :: o4 :: o5 :: o6 :: oo :: t) (.int x :: st) h := r_is e (ls1_7 hn) k
theorem r_as7 {x : Nat} {o0 o1 o2 o3 o4 o5 o6 oo : Option Value} {t : List (Option Value)} (e : dAs μ pc 7 npc) (hn : nlg o6 = true) (k : G Y ad μ npc (o0 :: o1 :: o2 :: o3 :: o4 :: o5 :: o6 :: some (.ref x) :: t) st h) : G Y ad μ pc (o0 :: o1 :: o2 :: o3 :: o4 :: o5 :: o6 :: oo :: t) (.ref x :: st) h := r_as e (ls1_7 hn) k
theorem r_ls7 {x : Int64} {o0 o1 o2 o3 o4 o5 o6 oo op : Option Value} {t : List (Option Value)} (e : dLs μ pc 7 npc) (hn : nlg o6 = true) (k : G Y ad μ npc (o0 :: o1 :: o2 :: o3 :: o4 :: o5 :: o6 :: some (.long x) :: none :: t) st h) : G Y ad μ pc (o0 :: o1 :: o2 :: o3 :: o4 :: o5 :: o6 :: oo :: op :: t) (.long x :: st) h := r_ls e (ls2_7 hn) k
theorem r_in7 {a b : Nat} {o0 o1 o2 o3 o4 o5 o6 : Option Value} {t : List (Option Value)} (e : dIn μ pc 7 (nI b) npc) (hn : nlg o6 = true) (k : G Y ad μ npc (o0 :: o1 :: o2 :: o3 :: o4 :: o5 :: o6 :: some (.int (nI (a + b))) :: t) st h) : G Y ad μ pc (o0 :: o1 :: o2 :: o3 :: o4 :: o5 :: o6 :: some (.int (nI a)) :: t) st h := r_in e rfl (by rw [nI_add]; exact ls1_7 hn) k
theorem r_f7 {o0 o1 o2 o3 o4 o5 o6 oo : Option Value} {t : List (Option Value)} (k : G Y ad μ pc (o0 :: o1 :: o2 :: o3 :: o4 :: o5 :: o6 :: none :: t) st h) : G Y ad μ pc (o0 :: o1 :: o2 :: o3 :: o4 :: o5 :: o6 :: oo :: t) st h := r_lo (by
  intro j w hj
  match j, hj with
  | 0, hj => exact hj
  | 1, hj => exact hj
  | 2, hj => exact hj
  | 3, hj => exact hj
  | 4, hj => exact hj
  | 5, hj => exact hj
  | 6, hj => exact hj
  | 7, hj => simp at hj
  | j + 8, hj => exact hj) k
theorem ls1_8 {o0 o1 o2 o3 o4 o5 o6 o7 oo : Option Value} {t : List (Option Value)} {v : Value} (hn : nlg o7 = true) : ls1 (o0 :: o1 :: o2 :: o3 :: o4 :: o5 :: o6 :: o7 :: oo :: t) (o0 :: o1 :: o2 :: o3 :: o4 :: o5 :: o6 :: o7 :: some v :: t) 8 v := by
  intro j w hj
  match j, hj with
  | 0, hj => exact Or.inr ⟨by omega, hj, by omega⟩
  | 1, hj => exact Or.inr ⟨by omega, hj, by omega⟩
  | 2, hj => exact Or.inr ⟨by omega, hj, by omega⟩
  | 3, hj => exact Or.inr ⟨by omega, hj, by omega⟩
  | 4, hj => exact Or.inr ⟨by omega, hj, by omega⟩
  | 5, hj => exact Or.inr ⟨by omega, hj, by omega⟩
  | 6, hj => exact Or.inr ⟨by omega, hj, by omega⟩
  | 7, hj => exact Or.inr ⟨by omega, hj, fun z => nlg_c hn (Option.some.inj hj) z.2⟩
  | 8, hj => exact Or.inl ⟨rfl, (Option.some.inj (Option.some.inj hj)).symm⟩
  | j + 9, hj => exact Or.inr ⟨by omega, hj, by omega⟩
theorem ls2_8 {o0 o1 o2 o3 o4 o5 o6 o7 oo op : Option Value} {t : List (Option Value)} {v : Value} (hn : nlg o7 = true) : ls2 (o0 :: o1 :: o2 :: o3 :: o4 :: o5 :: o6 :: o7 :: oo :: op :: t) (o0 :: o1 :: o2 :: o3 :: o4 :: o5 :: o6 :: o7 :: some v :: none :: t) 8 v := by
  intro j w hj
  match j, hj with
  | 0, hj => exact Or.inr ⟨by omega, by omega, hj, by omega⟩
  | 1, hj => exact Or.inr ⟨by omega, by omega, hj, by omega⟩
  | 2, hj => exact Or.inr ⟨by omega, by omega, hj, by omega⟩
  | 3, hj => exact Or.inr ⟨by omega, by omega, hj, by omega⟩
  | 4, hj => exact Or.inr ⟨by omega, by omega, hj, by omega⟩
  | 5, hj => exact Or.inr ⟨by omega, by omega, hj, by omega⟩
  | 6, hj => exact Or.inr ⟨by omega, by omega, hj, by omega⟩
  | 7, hj => exact Or.inr ⟨by omega, by omega, hj, fun z => nlg_c hn (Option.some.inj hj) z.2⟩
  | 8, hj => exact Or.inl ⟨rfl, (Option.some.inj (Option.some.inj hj)).symm⟩
  | 9, hj => simp at hj
  | j + 10, hj => exact Or.inr ⟨by omega, by omega, hj, by omega⟩
theorem r_is8 {x : Int32} {o0 o1 o2 o3 o4 o5 o6 o7 oo : Option Value} {t : List (Option Value)} (e : dIs μ pc 8 npc) (hn : nlg o7 = true) (k : G Y ad μ npc (o0 :: o1 :: o2 :: o3 :: o4 :: o5 :: o6 :: o7 :: some (.int x) :: t) st h) : G Y ad μ pc (o0 :: o1 :: o2 :: o3 :: o4 :: o5 :: o6 :: o7 :: oo :: t) (.int x :: st) h := r_is e (ls1_8 hn) k
theorem r_as8 {x : Nat} {o0 o1 o2 o3 o4 o5 o6 o7 oo : Option Value} {t : List (Option Value)} (e : dAs μ pc 8 npc) (hn : nlg o7 = true) (k : G Y ad μ npc (o0 :: o1 :: o2 :: o3 :: o4 :: o5 :: o6 :: o7 :: some (.ref x) :: t) st h) : G Y ad μ pc (o0 :: o1 :: o2 :: o3 :: o4 :: o5 :: o6 :: o7 :: oo :: t) (.ref x :: st) h := r_as e (ls1_8 hn) k
theorem r_ls8 {x : Int64} {o0 o1 o2 o3 o4 o5 o6 o7 oo op : Option Value} {t : List (Option Value)} (e : dLs μ pc 8 npc) (hn : nlg o7 = true) (k : G Y ad μ npc (o0 :: o1 :: o2 :: o3 :: o4 :: o5 :: o6 :: o7 :: some (.long x) :: none :: t) st h) : G Y ad μ pc (o0 :: o1 :: o2 :: o3 :: o4 :: o5 :: o6 :: o7 :: oo :: op :: t) (.long x :: st) h := r_ls e (ls2_8 hn) k
theorem r_in8 {a b : Nat} {o0 o1 o2 o3 o4 o5 o6 o7 : Option Value} {t : List (Option Value)} (e : dIn μ pc 8 (nI b) npc) (hn : nlg o7 = true) (k : G Y ad μ npc (o0 :: o1 :: o2 :: o3 :: o4 :: o5 :: o6 :: o7 :: some (.int (nI (a + b))) :: t) st h) : G Y ad μ pc (o0 :: o1 :: o2 :: o3 :: o4 :: o5 :: o6 :: o7 :: some (.int (nI a)) :: t) st h := r_in e rfl (by rw [nI_add]; exact ls1_8 hn) k
theorem r_f8 {o0 o1 o2 o3 o4 o5 o6 o7 oo : Option Value} {t : List (Option Value)} (k : G Y ad μ pc (o0 :: o1 :: o2 :: o3 :: o4 :: o5 :: o6 :: o7 :: none :: t) st h) : G Y ad μ pc (o0 :: o1 :: o2 :: o3 :: o4 :: o5 :: o6 :: o7 :: oo :: t) st h := r_lo (by
  intro j w hj
  match j, hj with
  | 0, hj => exact hj
  | 1, hj => exact hj
  | 2, hj => exact hj
  | 3, hj => exact hj
  | 4, hj => exact hj
  | 5, hj => exact hj
  | 6, hj => exact hj
  | 7, hj => exact hj
  | 8, hj => simp at hj
  | j + 9, hj => exact hj) k
theorem ls1_9 {o0 o1 o2 o3 o4 o5 o6 o7 o8 oo : Option Value} {t : List (Option Value)} {v : Value} (hn : nlg o8 = true) : ls1 (o0 :: o1 :: o2 :: o3 :: o4 :: o5 :: o6 :: o7 :: o8 :: oo :: t) (o0 :: o1 :: o2 :: o3 :: o4 :: o5 :: o6 :: o7 :: o8 :: some v :: t) 9 v := by
  intro j w hj
  match j, hj with
  | 0, hj => exact Or.inr ⟨by omega, hj, by omega⟩
  | 1, hj => exact Or.inr ⟨by omega, hj, by omega⟩
  | 2, hj => exact Or.inr ⟨by omega, hj, by omega⟩
  | 3, hj => exact Or.inr ⟨by omega, hj, by omega⟩
  | 4, hj => exact Or.inr ⟨by omega, hj, by omega⟩
  | 5, hj => exact Or.inr ⟨by omega, hj, by omega⟩
  | 6, hj => exact Or.inr ⟨by omega, hj, by omega⟩
  | 7, hj => exact Or.inr ⟨by omega, hj, by omega⟩
  | 8, hj => exact Or.inr ⟨by omega, hj, fun z => nlg_c hn (Option.some.inj hj) z.2⟩
  | 9, hj => exact Or.inl ⟨rfl, (Option.some.inj (Option.some.inj hj)).symm⟩
  | j + 10, hj => exact Or.inr ⟨by omega, hj, by omega⟩
theorem ls2_9 {o0 o1 o2 o3 o4 o5 o6 o7 o8 oo op : Option Value} {t : List (Option Value)} {v : Value} (hn : nlg o8 = true) : ls2 (o0 :: o1 :: o2 :: o3 :: o4 :: o5 :: o6 :: o7 :: o8 :: oo :: op :: t) (o0 :: o1 :: o2 :: o3 :: o4 :: o5 :: o6 :: o7 :: o8 :: some v :: none :: t) 9 v := by
  intro j w hj
  match j, hj with
  | 0, hj => exact Or.inr ⟨by omega, by omega, hj, by omega⟩
  | 1, hj => exact Or.inr ⟨by omega, by omega, hj, by omega⟩
  | 2, hj => exact Or.inr ⟨by omega, by omega, hj, by omega⟩
  | 3, hj => exact Or.inr ⟨by omega, by omega, hj, by omega⟩
  | 4, hj => exact Or.inr ⟨by omega, by omega, hj, by omega⟩
  | 5, hj => exact Or.inr ⟨by omega, by omega, hj, by omega⟩
  | 6, hj => exact Or.inr ⟨by omega, by omega, hj, by omega⟩
  | 7, hj => exact Or.inr ⟨by omega, by omega, hj, by omega⟩
  | 8, hj => exact Or.inr ⟨by omega, by omega, hj, fun z => nlg_c hn (Option.some.inj hj) z.2⟩
  | 9, hj => exact Or.inl ⟨rfl, (Option.some.inj (Option.some.inj hj)).symm⟩
  | 10, hj => simp at hj
  | j + 11, hj => exact Or.inr ⟨by omega, by omega, hj, by omega⟩
theorem r_is9 {x : Int32} {o0 o1 o2 o3 o4 o5 o6 o7 o8 oo : Option Value} {t : List (Option Value)} (e : dIs μ pc 9 npc) (hn : nlg o8 = true) (k : G Y ad μ npc (o0 :: o1 :: o2 :: o3 :: o4 :: o5 :: o6 :: o7 :: o8 :: some (.int x) :: t) st h) : G Y ad μ pc (o0 :: o1 :: o2 :: o3 :: o4 :: o5 :: o6 :: o7 :: o8 :: oo :: t) (.int x :: st) h := r_is e (ls1_9 hn) k
theorem r_as9 {x : Nat} {o0 o1 o2 o3 o4 o5 o6 o7 o8 oo : Option Value} {t : List (Option Value)} (e : dAs μ pc 9 npc) (hn : nlg o8 = true) (k : G Y ad μ npc (o0 :: o1 :: o2 :: o3 :: o4 :: o5 :: o6 :: o7 :: o8 :: some (.ref x) :: t) st h) : G Y ad μ pc (o0 :: o1 :: o2 :: o3 :: o4 :: o5 :: o6 :: o7 :: o8 :: oo :: t) (.ref x :: st) h := r_as e (ls1_9 hn) k
theorem r_ls9 {x : Int64} {o0 o1 o2 o3 o4 o5 o6 o7 o8 oo op : Option Value} {t : List (Option Value)} (e : dLs μ pc 9 npc) (hn : nlg o8 = true) (k : G Y ad μ npc (o0 :: o1 :: o2 :: o3 :: o4 :: o5 :: o6 :: o7 :: o8 :: some (.long x) :: none :: t) st h) : G Y ad μ pc (o0 :: o1 :: o2 :: o3 :: o4 :: o5 :: o6 :: o7 :: o8 :: oo :: op :: t) (.long x :: st) h := r_ls e (ls2_9 hn) k
theorem r_in9 {a b : Nat} {o0 o1 o2 o3 o4 o5 o6 o7 o8 : Option Value} {t : List (Option Value)} (e : dIn μ pc 9 (nI b) npc) (hn : nlg o8 = true) (k : G Y ad μ npc (o0 :: o1 :: o2 :: o3 :: o4 :: o5 :: o6 :: o7 :: o8 :: some (.int (nI (a + b))) :: t) st h) : G Y ad μ pc (o0 :: o1 :: o2 :: o3 :: o4 :: o5 :: o6 :: o7 :: o8 :: some (.int (nI a)) :: t) st h := r_in e rfl (by rw [nI_add]; exact ls1_9 hn) k
theorem r_f9 {o0 o1 o2 o3 o4 o5 o6 o7 o8 oo : Option Value} {t : List (Option Value)} (k : G Y ad μ pc (o0 :: o1 :: o2 :: o3 :: o4 :: o5 :: o6 :: o7 :: o8 :: none :: t) st h) : G Y ad μ pc (o0 :: o1 :: o2 :: o3 :: o4 :: o5 :: o6 :: o7 :: o8 :: oo :: t) st h := r_lo (by
  intro j w hj
  match j, hj with
  | 0, hj => exact hj
  | 1, hj => exact hj
  | 2, hj => exact hj
  | 3, hj => exact hj
  | 4, hj => exact hj
  | 5, hj => exact hj
  | 6, hj => exact hj
  | 7, hj => exact hj
  | 8, hj => exact hj
  | 9, hj => simp at hj
  | j + 10, hj => exact hj) k
theorem ls1_10 {o0 o1 o2 o3 o4 o5 o6 o7 o8 o9 oo : Option Value} {t : List (Option Value)} {v : Value} (hn : nlg o9 = true) : ls1 (o0 :: o1 :: o2 :: o3 :: o4 :: o5 :: o6 :: o7 :: o8 :: o9 :: oo :: t) (o0 :: o1 :: o2 :: o3 :: o4 :: o5 :: o6 :: o7 :: o8 :: o9 :: some v :: t) 10 v := by
  intro j w hj
  match j, hj with
  | 0, hj => exact Or.inr ⟨by omega, hj, by omega⟩
  | 1, hj => exact Or.inr ⟨by omega, hj, by omega⟩
  | 2, hj => exact Or.inr ⟨by omega, hj, by omega⟩
  | 3, hj => exact Or.inr ⟨by omega, hj, by omega⟩
  | 4, hj => exact Or.inr ⟨by omega, hj, by omega⟩
  | 5, hj => exact Or.inr ⟨by omega, hj, by omega⟩
  | 6, hj => exact Or.inr ⟨by omega, hj, by omega⟩
  | 7, hj => exact Or.inr ⟨by omega, hj, by omega⟩
  | 8, hj => exact Or.inr ⟨by omega, hj, by omega⟩
  | 9, hj => exact Or.inr ⟨by omega, hj, fun z => nlg_c hn (Option.some.inj hj) z.2⟩
  | 10, hj => exact Or.inl ⟨rfl, (Option.some.inj (Option.some.inj hj)).symm⟩
  | j + 11, hj => exact Or.inr ⟨by omega, hj, by omega⟩
theorem ls2_10 {o0 o1 o2 o3 o4 o5 o6 o7 o8 o9 oo op : Option Value} {t : List (Option Value)} {v : Value} (hn : nlg o9 = true) : ls2 (o0 :: o1 :: o2 :: o3 :: o4 :: o5 :: o6 :: o7 :: o8 :: o9 :: oo :: op :: t) (o0 :: o1 :: o2 :: o3 :: o4 :: o5 :: o6 :: o7 :: o8 :: o9 :: some v :: none :: t) 10 v := by
  intro j w hj
  match j, hj with
  | 0, hj => exact Or.inr ⟨by omega, by omega, hj, by omega⟩
  | 1, hj => exact Or.inr ⟨by omega, by omega, hj, by omega⟩
  | 2, hj => exact Or.inr ⟨by omega, by omega, hj, by omega⟩
  | 3, hj => exact Or.inr ⟨by omega, by omega, hj, by omega⟩
  | 4, hj => exact Or.inr ⟨by omega, by omega, hj, by omega⟩
  | 5, hj => exact Or.inr ⟨by omega, by omega, hj, by omega⟩
  | 6, hj => exact Or.inr ⟨by omega, by omega, hj, by omega⟩
  | 7, hj => exact Or.inr ⟨by omega, by omega, hj, by omega⟩
  | 8, hj => exact Or.inr ⟨by omega, by omega, hj, by omega⟩
  | 9, hj => exact Or.inr ⟨by omega, by omega, hj, fun z => nlg_c hn (Option.some.inj hj) z.2⟩
  | 10, hj => exact Or.inl ⟨rfl, (Option.some.inj (Option.some.inj hj)).symm⟩
  | 11, hj => simp at hj
  | j + 12, hj => exact Or.inr ⟨by omega, by omega, hj, by omega⟩
theorem r_is10 {x : Int32} {o0 o1 o2 o3 o4 o5 o6 o7 o8 o9 oo : Option Value} {t : List (Option Value)} (e : dIs μ pc 10 npc) (hn : nlg o9 = true) (k : G Y ad μ npc (o0 :: o1 :: o2 :: o3 :: o4 :: o5 :: o6 :: o7 :: o8 :: o9 :: some (.int x) :: t) st h) : G Y ad μ pc (o0 :: o1 :: o2 :: o3 :: o4 :: o5 :: o6 :: o7 :: o8 :: o9 :: oo :: t) (.int x :: st) h := r_is e (ls1_10 hn) k
theorem r_as10 {x : Nat} {o0 o1 o2 o3 o4 o5 o6 o7 o8 o9 oo : Option Value} {t : List (Option Value)} (e : dAs μ pc 10 npc) (hn : nlg o9 = true) (k : G Y ad μ npc (o0 :: o1 :: o2 :: o3 :: o4 :: o5 :: o6 :: o7 :: o8 :: o9 :: some (.ref x) :: t) st h) : G Y ad μ pc (o0 :: o1 :: o2 :: o3 :: o4 :: o5 :: o6 :: o7 :: o8 :: o9 :: oo :: t) (.ref x :: st) h := r_as e (ls1_10 hn) k
theorem r_ls10 {x : Int64} {o0 o1 o2 o3 o4 o5 o6 o7 o8 o9 oo op : Option Value} {t : List (Option Value)} (e : dLs μ pc 10 npc) (hn : nlg o9 = true) (k : G Y ad μ npc (o0 :: o1 :: o2 :: o3 :: o4 :: o5 :: o6 :: o7 :: o8 :: o9 :: some (.long x) :: none :: t) st h) : G Y ad μ pc (o0 :: o1 :: o2 :: o3 :: o4 :: o5 :: o6 :: o7 :: o8 :: o9 :: oo :: op :: t) (.long x :: st) h := r_ls e (ls2_10 hn) k
theorem r_in10 {a b : Nat} {o0 o1 o2 o3 o4 o5 o6 o7 o8 o9 : Option Value} {t : List (Option Value)} (e : dIn μ pc 10 (nI b) npc) (hn : nlg o9 = true) (k : G Y ad μ npc (o0 :: o1 :: o2 :: o3 :: o4 :: o5 :: o6 :: o7 :: o8 :: o9 :: some (.int (nI (a + b))) :: t) st h) : G Y ad μ pc (o0 :: o1 :: o2 :: o3 :: o4 :: o5 :: o6 :: o7 :: o8 :: o9 :: some (.int (nI a)) :: t) st h := r_in e rfl (by rw [nI_add]; exact ls1_10 hn) k
theorem r_f10 {o0 o1 o2 o3 o4 o5 o6 o7 o8 o9 oo : Option Value} {t : List (Option Value)} (k : G Y ad μ pc (o0 :: o1 :: o2 :: o3 :: o4 :: o5 :: o6 :: o7 :: o8 :: o9 :: none :: t) st h) : G Y ad μ pc (o0 :: o1 :: o2 :: o3 :: o4 :: o5 :: o6 :: o7 :: o8 :: o9 :: oo :: t) st h := r_lo (by
  intro j w hj
  match j, hj with
  | 0, hj => exact hj
  | 1, hj => exact hj
  | 2, hj => exact hj
  | 3, hj => exact hj
  | 4, hj => exact hj
  | 5, hj => exact hj
  | 6, hj => exact hj
  | 7, hj => exact hj
  | 8, hj => exact hj
  | 9, hj => exact hj
  | 10, hj => simp at hj
  | j + 11, hj => exact hj) k
theorem ls1_11 {o0 o1 o2 o3 o4 o5 o6 o7 o8 o9 o10 oo : Option Value} {t : List (Option Value)} {v : Value} (hn : nlg o10 = true) : ls1 (o0 :: o1 :: o2 :: o3 :: o4 :: o5 :: o6 :: o7 :: o8 :: o9 :: o10 :: oo :: t) (o0 :: o1 :: o2 :: o3 :: o4 :: o5 :: o6 :: o7 :: o8 :: o9 :: o10 :: some v :: t) 11 v := by
  intro j w hj
  match j, hj with
  | 0, hj => exact Or.inr ⟨by omega, hj, by omega⟩
  | 1, hj => exact Or.inr ⟨by omega, hj, by omega⟩
  | 2, hj => exact Or.inr ⟨by omega, hj, by omega⟩
  | 3, hj => exact Or.inr ⟨by omega, hj, by omega⟩
  | 4, hj => exact Or.inr ⟨by omega, hj, by omega⟩
  | 5, hj => exact Or.inr ⟨by omega, hj, by omega⟩
  | 6, hj => exact Or.inr ⟨by omega, hj, by omega⟩
  | 7, hj => exact Or.inr ⟨by omega, hj, by omega⟩
  | 8, hj => exact Or.inr ⟨by omega, hj, by omega⟩
  | 9, hj => exact Or.inr ⟨by omega, hj, by omega⟩
  | 10, hj => exact Or.inr ⟨by omega, hj, fun z => nlg_c hn (Option.some.inj hj) z.2⟩
  | 11, hj => exact Or.inl ⟨rfl, (Option.some.inj (Option.some.inj hj)).symm⟩
  | j + 12, hj => exact Or.inr ⟨by omega, hj, by omega⟩
theorem ls2_11 {o0 o1 o2 o3 o4 o5 o6 o7 o8 o9 o10 oo op : Option Value} {t : List (Option Value)} {v : Value} (hn : nlg o10 = true) : ls2 (o0 :: o1 :: o2 :: o3 :: o4 :: o5 :: o6 :: o7 :: o8 :: o9 :: o10 :: oo :: op :: t) (o0 :: o1 :: o2 :: o3 :: o4 :: o5 :: o6 :: o7 :: o8 :: o9 :: o10 :: some v :: none :: t) 11 v := by
  intro j w hj
  match j, hj with
  | 0, hj => exact Or.inr ⟨by omega, by omega, hj, by omega⟩
  | 1, hj => exact Or.inr ⟨by omega, by omega, hj, by omega⟩
  | 2, hj => exact Or.inr ⟨by omega, by omega, hj, by omega⟩
  | 3, hj => exact Or.inr ⟨by omega, by omega, hj, by omega⟩
  | 4, hj => exact Or.inr ⟨by omega, by omega, hj, by omega⟩
  | 5, hj => exact Or.inr ⟨by omega, by omega, hj, by omega⟩
  | 6, hj => exact Or.inr ⟨by omega, by omega, hj, by omega⟩
  | 7, hj => exact Or.inr ⟨by omega, by omega, hj, by omega⟩
  | 8, hj => exact Or.inr ⟨by omega, by omega, hj, by omega⟩
  | 9, hj => exact Or.inr ⟨by omega, by omega, hj, by omega⟩
  | 10, hj => exact Or.inr ⟨by omega, by omega, hj, fun z => nlg_c hn (Option.some.inj hj) z.2⟩
  | 11, hj => exact Or.inl ⟨rfl, (Option.some.inj (Option.some.inj hj)).symm⟩
  | 12, hj => simp at hj
  | j + 13, hj => exact Or.inr ⟨by omega, by omega, hj, by omega⟩
theorem r_is11 {x : Int32} {o0 o1 o2 o3 o4 o5 o6 o7 o8 o9 o10 oo : Option Value} {t : List (Option Value)} (e : dIs μ pc 11 npc) (hn : nlg o10 = true) (k : G Y ad μ npc (o0 :: o1 :: o2 :: o3 :: o4 :: o5 :: o6 :: o7 :: o8 :: o9 :: o10 :: some (.int x) :: t) st h) : G Y ad μ pc (o0 :: o1 :: o2 :: o3 :: o4 :: o5 :: o6 :: o7 :: o8 :: o9 :: o10 :: oo :: t) (.int x :: st) h := r_is e (ls1_11 hn) k
theorem r_as11 {x : Nat} {o0 o1 o2 o3 o4 o5 o6 o7 o8 o9 o10 oo : Option Value} {t : List (Option Value)} (e : dAs μ pc 11 npc) (hn : nlg o10 = true) (k : G Y ad μ npc (o0 :: o1 :: o2 :: o3 :: o4 :: o5 :: o6 :: o7 :: o8 :: o9 :: o10 :: some (.ref x) :: t) st h) : G Y ad μ pc (o0 :: o1 :: o2 :: o3 :: o4 :: o5 :: o6 :: o7 :: o8 :: o9 :: o10 :: oo :: t) (.ref x :: st) h := r_as e (ls1_11 hn) k
theorem r_ls11 {x : Int64} {o0 o1 o2 o3 o4 o5 o6 o7 o8 o9 o10 oo op : Option Value} {t : List (Option Value)} (e : dLs μ pc 11 npc) (hn : nlg o10 = true) (k : G Y ad μ npc (o0 :: o1 :: o2 :: o3 :: o4 :: o5 :: o6 :: o7 :: o8 :: o9 :: o10 :: some (.long x) :: none :: t) st h) : G Y ad μ pc (o0 :: o1 :: o2 :: o3 :: o4 :: o5 :: o6 :: o7 :: o8 :: o9 :: o10 :: oo :: op :: t) (.long x :: st) h := r_ls e (ls2_11 hn) k
theorem r_in11 {a b : Nat} {o0 o1 o2 o3 o4 o5 o6 o7 o8 o9 o10 : Option Value} {t : List (Option Value)} (e : dIn μ pc 11 (nI b) npc) (hn : nlg o10 = true) (k : G Y ad μ npc (o0 :: o1 :: o2 :: o3 :: o4 :: o5 :: o6 :: o7 :: o8 :: o9 :: o10 :: some (.int (nI (a + b))) :: t) st h) : G Y ad μ pc (o0 :: o1 :: o2 :: o3 :: o4 :: o5 :: o6 :: o7 :: o8 :: o9 :: o10 :: some (.int (nI a)) :: t) st h := r_in e rfl (by rw [nI_add]; exact ls1_11 hn) k
theorem r_f11 {o0 o1 o2 o3 o4 o5 o6 o7 o8 o9 o10 oo : Option Value} {t : List (Option Value)} (k : G Y ad μ pc (o0 :: o1 :: o2 :: o3 :: o4 :: o5 :: o6 :: o7 :: o8 :: o9 :: o10 :: none :: t) st h) : G Y ad μ pc (o0 :: o1 :: o2 :: o3 :: o4 :: o5 :: o6 :: o7 :: o8 :: o9 :: o10 :: oo :: t) st h := r_lo (by
  intro j w hj
  match j, hj with
  | 0, hj => exact hj
  | 1, hj => exact hj
  | 2, hj => exact hj
  | 3, hj => exact hj
  | 4, hj => exact hj
  | 5, hj => exact hj
  | 6, hj => exact hj
  | 7, hj => exact hj
  | 8, hj => exact hj
  | 9, hj => exact hj
  | 10, hj => exact hj
  | 11, hj => simp at hj
  | j + 12, hj => exact hj) k
theorem ls1_12 {o0 o1 o2 o3 o4 o5 o6 o7 o8 o9 o10 o11 oo : Option Value} {t : List (Option Value)} {v : Value} (hn : nlg o11 = true) : ls1 (o0 :: o1 :: o2 :: o3 :: o4 :: o5 :: o6 :: o7 :: o8 :: o9 :: o10 :: o11 :: oo :: t) (o0 :: o1 :: o2 :: o3 :: o4 :: o5 :: o6 :: o7 :: o8 :: o9 :: o10 :: o11 :: some v :: t) 12 v := by
  intro j w hj
  match j, hj with
  | 0, hj => exact Or.inr ⟨by omega, hj, by omega⟩
  | 1, hj => exact Or.inr ⟨by omega, hj, by omega⟩
  | 2, hj => exact Or.inr ⟨by omega, hj, by omega⟩
  | 3, hj => exact Or.inr ⟨by omega, hj, by omega⟩
  | 4, hj => exact Or.inr ⟨by omega, hj, by omega⟩
  | 5, hj => exact Or.inr ⟨by omega, hj, by omega⟩
  | 6, hj => exact Or.inr ⟨by omega, hj, by omega⟩
  | 7, hj => exact Or.inr ⟨by omega, hj, by omega⟩
  | 8, hj => exact Or.inr ⟨by omega, hj, by omega⟩
  | 9, hj => exact Or.inr ⟨by omega, hj, by omega⟩
  | 10, hj => exact Or.inr ⟨by omega, hj, by omega⟩
  | 11, hj => exact Or.inr ⟨by omega, hj, fun z => nlg_c hn (Option.some.inj hj) z.2⟩
  | 12, hj => exact Or.inl ⟨rfl, (Option.some.inj (Option.some.inj hj)).symm⟩
  | j + 13, hj => exact Or.inr ⟨by omega, hj, by omega⟩
theorem ls2_12 {o0 o1 o2 o3 o4 o5 o6 o7 o8 o9 o10 o11 oo op : Option Value} {t : List (Option Value)} {v : Value} (hn : nlg o11 = true) : ls2 (o0 :: o1 :: o2 :: o3 :: o4 :: o5 :: o6 :: o7 :: o8 :: o9 :: o10 :: o11 :: oo :: op :: t) (o0 :: o1 :: o2 :: o3 :: o4 :: o5 :: o6 :: o7 :: o8 :: o9 :: o10 :: o11 :: some v :: none :: t) 12 v := by
  intro j w hj
  match j, hj with
  | 0, hj => exact Or.inr ⟨by omega, by omega, hj, by omega⟩
  | 1, hj => exact Or.inr ⟨by omega, by omega, hj, by omega⟩
  | 2, hj => exact Or.inr ⟨by omega, by omega, hj, by omega⟩
  | 3, hj => exact Or.inr ⟨by omega, by omega, hj, by omega⟩
  | 4, hj => exact Or.inr ⟨by omega, by omega, hj, by omega⟩
  | 5, hj => exact Or.inr ⟨by omega, by omega, hj, by omega⟩
  | 6, hj => exact Or.inr ⟨by omega, by omega, hj, by omega⟩
  | 7, hj => exact Or.inr ⟨by omega, by omega, hj, by omega⟩
  | 8, hj => exact Or.inr ⟨by omega, by omega, hj, by omega⟩
  | 9, hj => exact Or.inr ⟨by omega, by omega, hj, by omega⟩
  | 10, hj => exact Or.inr ⟨by omega, by omega, hj, by omega⟩
  | 11, hj => exact Or.inr ⟨by omega, by omega, hj, fun z => nlg_c hn (Option.some.inj hj) z.2⟩
  | 12, hj => exact Or.inl ⟨rfl, (Option.some.inj (Option.some.inj hj)).symm⟩
  | 13, hj => simp at hj
  | j + 14, hj => exact Or.inr ⟨by omega, by omega, hj, by omega⟩
theorem r_is12 {x : Int32} {o0 o1 o2 o3 o4 o5 o6 o7 o8 o9 o10 o11 oo : Option Value} {t : List (Option Value)} (e : dIs μ pc 12 npc) (hn : nlg o11 = true) (k : G Y ad μ npc (o0 :: o1 :: o2 :: o3 :: o4 :: o5 :: o6 :: o7 :: o8 :: o9 :: o10 :: o11 :: some (.int x) :: t) st h) : G Y ad μ pc (o0 :: o1 :: o2 :: o3 :: o4 :: o5 :: o6 :: o7 :: o8 :: o9 :: o10 :: o11 :: oo :: t) (.int x :: st) h := r_is e (ls1_12 hn) k
theorem r_as12 {x : Nat} {o0 o1 o2 o3 o4 o5 o6 o7 o8 o9 o10 o11 oo : Option Value} {t : List (Option Value)} (e : dAs μ pc 12 npc) (hn : nlg o11 = true) (k : G Y ad μ npc (o0 :: o1 :: o2 :: o3 :: o4 :: o5 :: o6 :: o7 :: o8 :: o9 :: o10 :: o11 :: some (.ref x) :: t) st h) : G Y ad μ pc (o0 :: o1 :: o2 :: o3 :: o4 :: o5 :: o6 :: o7 :: o8 :: o9 :: o10 :: o11 :: oo :: t) (.ref x :: st) h := r_as e (ls1_12 hn) k
theorem r_ls12 {x : Int64} {o0 o1 o2 o3 o4 o5 o6 o7 o8 o9 o10 o11 oo op : Option Value} {t : List (Option Value)} (e : dLs μ pc 12 npc) (hn : nlg o11 = true) (k : G Y ad μ npc (o0 :: o1 :: o2 :: o3 :: o4 :: o5 :: o6 :: o7 :: o8 :: o9 :: o10 :: o11 :: some (.long x) :: none :: t) st h) : G Y ad μ pc (o0 :: o1 :: o2 :: o3 :: o4 :: o5 :: o6 :: o7 :: o8 :: o9 :: o10 :: o11 :: oo :: op :: t) (.long x :: st) h := r_ls e (ls2_12 hn) k
theorem r_in12 {a b : Nat} {o0 o1 o2 o3 o4 o5 o6 o7 o8 o9 o10 o11 : Option Value} {t : List (Option Value)} (e : dIn μ pc 12 (nI b) npc) (hn : nlg o11 = true) (k : G Y ad μ npc (o0 :: o1 :: o2 :: o3 :: o4 :: o5 :: o6 :: o7 :: o8 :: o9 :: o10 :: o11 :: some (.int (nI (a + b))) :: t) st h) : G Y ad μ pc (o0 :: o1 :: o2 :: o3 :: o4 :: o5 :: o6 :: o7 :: o8 :: o9 :: o10 :: o11 :: some (.int (nI a)) :: t) st h := r_in e rfl (by rw [nI_add]; exact ls1_12 hn) k
theorem r_f12 {o0 o1 o2 o3 o4 o5 o6 o7 o8 o9 o10 o11 oo : Option Value} {t : List (Option Value)} (k : G Y ad μ pc (o0 :: o1 :: o2 :: o3 :: o4 :: o5 :: o6 :: o7 :: o8 :: o9 :: o10 :: o11 :: none :: t) st h) : G Y ad μ pc (o0 :: o1 :: o2 :: o3 :: o4 :: o5 :: o6 :: o7 :: o8 :: o9 :: o10 :: o11 :: oo :: t) st h := r_lo (by
  intro j w hj
  match j, hj with
  | 0, hj => exact hj
  | 1, hj => exact hj
  | 2, hj => exact hj
  | 3, hj => exact hj
  | 4, hj => exact hj
  | 5, hj => exact hj
  | 6, hj => exact hj
  | 7, hj => exact hj
  | 8, hj => exact hj
  | 9, hj => exact hj
  | 10, hj => exact hj
  | 11, hj => exact hj
  | 12, hj => simp at hj
  | j + 13, hj => exact hj) k
theorem ls1_13 {o0 o1 o2 o3 o4 o5 o6 o7 o8 o9 o10 o11 o12 oo : Option Value} {t : List (Option Value)} {v : Value} (hn : nlg o12 = true) : ls1 (o0 :: o1 :: o2 :: o3 :: o4 :: o5 :: o6 :: o7 :: o8 :: o9 :: o10 :: o11 :: o12 :: oo :: t) (o0 :: o1 :: o2 :: o3 :: o4 :: o5 :: o6 :: o7 :: o8 :: o9 :: o10 :: o11 :: o12 :: some v :: t) 13 v := by
  intro j w hj
  match j, hj with
  | 0, hj => exact Or.inr ⟨by omega, hj, by omega⟩
  | 1, hj => exact Or.inr ⟨by omega, hj, by omega⟩
  | 2, hj => exact Or.inr ⟨by omega, hj, by omega⟩
  | 3, hj => exact Or.inr ⟨by omega, hj, by omega⟩
  | 4, hj => exact Or.inr ⟨by omega, hj, by omega⟩
  | 5, hj => exact Or.inr ⟨by omega, hj, by omega⟩
  | 6, hj => exact Or.inr ⟨by omega, hj, by omega⟩
  | 7, hj => exact Or.inr ⟨by omega, hj, by omega⟩
  | 8, hj => exact Or.inr ⟨by omega, hj, by omega⟩
  | 9, hj => exact Or.inr ⟨by omega, hj, by omega⟩
  | 10, hj => exact Or.inr ⟨by omega, hj, by omega⟩
  | 11, hj => exact Or.inr ⟨by omega, hj, by omega⟩
  | 12, hj => exact Or.inr ⟨by omega, hj, fun z => nlg_c hn (Option.some.inj hj) z.2⟩
  | 13, hj => exact Or.inl ⟨rfl, (Option.some.inj (Option.some.inj hj)).symm⟩
  | j + 14, hj => exact Or.inr ⟨by omega, hj, by omega⟩
theorem ls2_13 {o0 o1 o2 o3 o4 o5 o6 o7 o8 o9 o10 o11 o12 oo op : Option Value} {t : List (Option Value)} {v : Value} (hn : nlg o12 = true) : ls2 (o0 :: o1 :: o2 :: o3 :: o4 :: o5 :: o6 :: o7 :: o8 :: o9 :: o10 :: o11 :: o12 :: oo :: op :: t) (o0 :: o1 :: o2 :: o3 :: o4 :: o5 :: o6 :: o7 :: o8 :: o9 :: o10 :: o11 :: o12 :: some v :: none :: t) 13 v := by
  intro j w hj
  match j, hj with
  | 0, hj => exact Or.inr ⟨by omega, by omega, hj, by omega⟩
  | 1, hj => exact Or.inr ⟨by omega, by omega, hj, by omega⟩
  | 2, hj => exact Or.inr ⟨by omega, by omega, hj, by omega⟩
  | 3, hj => exact Or.inr ⟨by omega, by omega, hj, by omega⟩
  | 4, hj => exact Or.inr ⟨by omega, by omega, hj, by omega⟩
  | 5, hj => exact Or.inr ⟨by omega, by omega, hj, by omega⟩
  | 6, hj => exact Or.inr ⟨by omega, by omega, hj, by omega⟩
  | 7, hj => exact Or.inr ⟨by omega, by omega, hj, by omega⟩
  | 8, hj => exact Or.inr ⟨by omega, by omega, hj, by omega⟩
  | 9, hj => exact Or.inr ⟨by omega, by omega, hj, by omega⟩
  | 10, hj => exact Or.inr ⟨by omega, by omega, hj, by omega⟩
  | 11, hj => exact Or.inr ⟨by omega, by omega, hj, by omega⟩
  | 12, hj => exact Or.inr ⟨by omega, by omega, hj, fun z => nlg_c hn (Option.some.inj hj) z.2⟩
  | 13, hj => exact Or.inl ⟨rfl, (Option.some.inj (Option.some.inj hj)).symm⟩
  | 14, hj => simp at hj
  | j + 15, hj => exact Or.inr ⟨by omega, by omega, hj, by omega⟩
theorem r_is13 {x : Int32} {o0 o1 o2 o3 o4 o5 o6 o7 o8 o9 o10 o11 o12 oo : Option Value} {t : List (Option Value)} (e : dIs μ pc 13 npc) (hn : nlg o12 = true) (k : G Y ad μ npc (o0 :: o1 :: o2 :: o3 :: o4 :: o5 :: o6 :: o7 :: o8 :: o9 :: o10 :: o11 :: o12 :: some (.int x) :: t) st h) : G Y ad μ pc (o0 :: o1 :: o2 :: o3 :: o4 :: o5 :: o6 :: o7 :: o8 :: o9 :: o10 :: o11 :: o12 :: oo :: t) (.int x :: st) h := r_is e (ls1_13 hn) k
theorem r_as13 {x : Nat} {o0 o1 o2 o3 o4 o5 o6 o7 o8 o9 o10 o11 o12 oo : Option Value} {t : List (Option Value)} (e : dAs μ pc 13 npc) (hn : nlg o12 = true) (k : G Y ad μ npc (o0 :: o1 :: o2 :: o3 :: o4 :: o5 :: o6 :: o7 :: o8 :: o9 :: o10 :: o11 :: o12 :: some (.ref x) :: t) st h) : G Y ad μ pc (o0 :: o1 :: o2 :: o3 :: o4 :: o5 :: o6 :: o7 :: o8 :: o9 :: o10 :: o11 :: o12 :: oo :: t) (.ref x :: st) h := r_as e (ls1_13 hn) k
theorem r_ls13 {x : Int64} {o0 o1 o2 o3 o4 o5 o6 o7 o8 o9 o10 o11 o12 oo op : Option Value} {t : List (Option Value)} (e : dLs μ pc 13 npc) (hn : nlg o12 = true) (k : G Y ad μ npc (o0 :: o1 :: o2 :: o3 :: o4 :: o5 :: o6 :: o7 :: o8 :: o9 :: o10 :: o11 :: o12 :: some (.long x) :: none :: t) st h) : G Y ad μ pc (o0 :: o1 :: o2 :: o3 :: o4 :: o5 :: o6 :: o7 :: o8 :: o9 :: o10 :: o11 :: o12 :: oo :: op :: t) (.long x :: st) h := r_ls e (ls2_13 hn) k
theorem r_in13 {a b : Nat} {o0 o1 o2 o3 o4 o5 o6 o7 o8 o9 o10 o11 o12 : Option Value} {t : List (Option Value)} (e : dIn μ pc 13 (nI b) npc) (hn : nlg o12 = true) (k : G Y ad μ npc (o0 :: o1 :: o2 :: o3 :: o4 :: o5 :: o6 :: o7 :: o8 :: o9 :: o10 :: o11 :: o12 :: some (.int (nI (a + b))) :: t) st h) : G Y ad μ pc (o0 :: o1 :: o2 :: o3 :: o4 :: o5 :: o6 :: o7 :: o8 :: o9 :: o10 :: o11 :: o12 :: some (.int (nI a)) :: t) st h := r_in e rfl (by rw [nI_add]; exact ls1_13 hn) k
theorem r_f13 {o0 o1 o2 o3 o4 o5 o6 o7 o8 o9 o10 o11 o12 oo : Option Value} {t : List (Option Value)} (k : G Y ad μ pc (o0 :: o1 :: o2 :: o3 :: o4 :: o5 :: o6 :: o7 :: o8 :: o9 :: o10 :: o11 :: o12 :: none :: t) st h) : G Y ad μ pc (o0 :: o1 :: o2 :: o3 :: o4 :: o5 :: o6 :: o7 :: o8 :: o9 :: o10 :: o11 :: o12 :: oo :: t) st h := r_lo (by
  intro j w hj
  match j, hj with
  | 0, hj => exact hj
  | 1, hj => exact hj
  | 2, hj => exact hj
  | 3, hj => exact hj
  | 4, hj => exact hj
  | 5, hj => exact hj
  | 6, hj => exact hj
  | 7, hj => exact hj
  | 8, hj => exact hj
  | 9, hj => exact hj
  | 10, hj => exact hj
  | 11, hj => exact hj
  | 12, hj => exact hj
  | 13, hj => simp at hj
  | j + 14, hj => exact hj) k
theorem r_go {tgt : Nat} (e : dJ μ pc tgt) (k : G Y ad μ tgt ls st h) : G Y ad μ pc ls st h := by
  intro C H locs lsc hH hl
  obtain ⟨off, hd, ht⟩ := e
  exact lv_goto C.1 C.2.1 hd ht (k C H locs lsc hH hl)
theorem r_c_eq {x y : Int32} {tgt : Nat} (e : dC μ pc .eq npc tgt) (kt : x = y → G Y ad μ tgt ls st h) (kf : ¬ x = y → G Y ad μ npc ls st h) : G Y ad μ pc ls (.int y :: .int x :: st) h := by
  intro C H locs lsc hH hl
  obtain ⟨off, hd, ht, rfl⟩ := e
  exact lv_icmp_eq C.1 C.2.1 hd ht (fun q => kt q C H locs lsc hH hl) (fun q => kf q C H locs lsc hH hl)
theorem r_z_eq {x : Int32} {tgt : Nat} (e : dZ μ pc .eq npc tgt) (kt : x = 0 → G Y ad μ tgt ls st h) (kf : ¬ x = 0 → G Y ad μ npc ls st h) : G Y ad μ pc ls (.int x :: st) h := by
  intro C H locs lsc hH hl
  obtain ⟨off, hd, ht, rfl⟩ := e
  exact lv_if_eq C.1 C.2.1 hd ht (fun q => kt q C H locs lsc hH hl) (fun q => kf q C H locs lsc hH hl)
theorem r_c_ne {x y : Int32} {tgt : Nat} (e : dC μ pc .ne npc tgt) (kt : ¬ x = y → G Y ad μ tgt ls st h) (kf : x = y → G Y ad μ npc ls st h) : G Y ad μ pc ls (.int y :: .int x :: st) h := by
  intro C H locs lsc hH hl
  obtain ⟨off, hd, ht, rfl⟩ := e
  exact lv_icmp_ne C.1 C.2.1 hd ht (fun q => kt q C H locs lsc hH hl) (fun q => kf q C H locs lsc hH hl)
theorem r_z_ne {x : Int32} {tgt : Nat} (e : dZ μ pc .ne npc tgt) (kt : ¬ x = 0 → G Y ad μ tgt ls st h) (kf : x = 0 → G Y ad μ npc ls st h) : G Y ad μ pc ls (.int x :: st) h := by
  intro C H locs lsc hH hl
  obtain ⟨off, hd, ht, rfl⟩ := e
  exact lv_if_ne C.1 C.2.1 hd ht (fun q => kt q C H locs lsc hH hl) (fun q => kf q C H locs lsc hH hl)
theorem r_c_lt {x y : Int32} {tgt : Nat} (e : dC μ pc .lt npc tgt) (kt : x < y → G Y ad μ tgt ls st h) (kf : ¬ x < y → G Y ad μ npc ls st h) : G Y ad μ pc ls (.int y :: .int x :: st) h := by
  intro C H locs lsc hH hl
  obtain ⟨off, hd, ht, rfl⟩ := e
  exact lv_icmp_lt C.1 C.2.1 hd ht (fun q => kt q C H locs lsc hH hl) (fun q => kf q C H locs lsc hH hl)
theorem r_z_lt {x : Int32} {tgt : Nat} (e : dZ μ pc .lt npc tgt) (kt : x < 0 → G Y ad μ tgt ls st h) (kf : ¬ x < 0 → G Y ad μ npc ls st h) : G Y ad μ pc ls (.int x :: st) h := by
  intro C H locs lsc hH hl
  obtain ⟨off, hd, ht, rfl⟩ := e
  exact lv_if_lt C.1 C.2.1 hd ht (fun q => kt q C H locs lsc hH hl) (fun q => kf q C H locs lsc hH hl)
theorem r_c_ge {x y : Int32} {tgt : Nat} (e : dC μ pc .ge npc tgt) (kt : y ≤ x → G Y ad μ tgt ls st h) (kf : ¬ y ≤ x → G Y ad μ npc ls st h) : G Y ad μ pc ls (.int y :: .int x :: st) h := by
  intro C H locs lsc hH hl
  obtain ⟨off, hd, ht, rfl⟩ := e
  exact lv_icmp_ge C.1 C.2.1 hd ht (fun q => kt q C H locs lsc hH hl) (fun q => kf q C H locs lsc hH hl)
theorem r_z_ge {x : Int32} {tgt : Nat} (e : dZ μ pc .ge npc tgt) (kt : 0 ≤ x → G Y ad μ tgt ls st h) (kf : ¬ 0 ≤ x → G Y ad μ npc ls st h) : G Y ad μ pc ls (.int x :: st) h := by
  intro C H locs lsc hH hl
  obtain ⟨off, hd, ht, rfl⟩ := e
  exact lv_if_ge C.1 C.2.1 hd ht (fun q => kt q C H locs lsc hH hl) (fun q => kf q C H locs lsc hH hl)
theorem r_c_gt {x y : Int32} {tgt : Nat} (e : dC μ pc .gt npc tgt) (kt : y < x → G Y ad μ tgt ls st h) (kf : ¬ y < x → G Y ad μ npc ls st h) : G Y ad μ pc ls (.int y :: .int x :: st) h := by
  intro C H locs lsc hH hl
  obtain ⟨off, hd, ht, rfl⟩ := e
  exact lv_icmp_gt C.1 C.2.1 hd ht (fun q => kt q C H locs lsc hH hl) (fun q => kf q C H locs lsc hH hl)
theorem r_z_gt {x : Int32} {tgt : Nat} (e : dZ μ pc .gt npc tgt) (kt : 0 < x → G Y ad μ tgt ls st h) (kf : ¬ 0 < x → G Y ad μ npc ls st h) : G Y ad μ pc ls (.int x :: st) h := by
  intro C H locs lsc hH hl
  obtain ⟨off, hd, ht, rfl⟩ := e
  exact lv_if_gt C.1 C.2.1 hd ht (fun q => kt q C H locs lsc hH hl) (fun q => kf q C H locs lsc hH hl)
theorem r_c_le {x y : Int32} {tgt : Nat} (e : dC μ pc .le npc tgt) (kt : x ≤ y → G Y ad μ tgt ls st h) (kf : ¬ x ≤ y → G Y ad μ npc ls st h) : G Y ad μ pc ls (.int y :: .int x :: st) h := by
  intro C H locs lsc hH hl
  obtain ⟨off, hd, ht, rfl⟩ := e
  exact lv_icmp_le C.1 C.2.1 hd ht (fun q => kt q C H locs lsc hH hl) (fun q => kf q C H locs lsc hH hl)
theorem r_z_le {x : Int32} {tgt : Nat} (e : dZ μ pc .le npc tgt) (kt : x ≤ 0 → G Y ad μ tgt ls st h) (kf : ¬ x ≤ 0 → G Y ad μ npc ls st h) : G Y ad μ pc ls (.int x :: st) h := by
  intro C H locs lsc hH hl
  obtain ⟨off, hd, ht, rfl⟩ := e
  exact lv_if_le C.1 C.2.1 hd ht (fun q => kt q C H locs lsc hH hl) (fun q => kf q C H locs lsc hH hl)
theorem r_n_eq {a b tgt : Nat} (e : dC μ pc .eq npc tgt) (ha : a < 2147483648) (hb : b < 2147483648) (kt : a = b → G Y ad μ tgt ls st h) (kf : a ≠ b → G Y ad μ npc ls st h) : G Y ad μ pc ls (.int (nI b) :: .int (nI a) :: st) h := r_c_eq e (fun q => kt ((nI_eq ha hb).mp q)) (fun q => kf (fun z => q ((nI_eq ha hb).mpr z)))
theorem r_n_ne {a b tgt : Nat} (e : dC μ pc .ne npc tgt) (ha : a < 2147483648) (hb : b < 2147483648) (kt : a ≠ b → G Y ad μ tgt ls st h) (kf : a = b → G Y ad μ npc ls st h) : G Y ad μ pc ls (.int (nI b) :: .int (nI a) :: st) h := r_c_ne e (fun q => kt (fun z => q ((nI_eq ha hb).mpr z))) (fun q => kf ((nI_eq ha hb).mp q))
theorem r_n_lt {a b tgt : Nat} (e : dC μ pc .lt npc tgt) (ha : a < 2147483648) (hb : b < 2147483648) (kt : a < b → G Y ad μ tgt ls st h) (kf : b ≤ a → G Y ad μ npc ls st h) : G Y ad μ pc ls (.int (nI b) :: .int (nI a) :: st) h := r_c_lt e (fun q => kt ((nI_ltI ha hb).mp q)) (fun q => kf (Nat.le_of_not_lt (fun z => q ((nI_ltI ha hb).mpr z))))
theorem r_n_ge {a b tgt : Nat} (e : dC μ pc .ge npc tgt) (ha : a < 2147483648) (hb : b < 2147483648) (kt : b ≤ a → G Y ad μ tgt ls st h) (kf : a < b → G Y ad μ npc ls st h) : G Y ad μ pc ls (.int (nI b) :: .int (nI a) :: st) h := r_c_ge e (fun q => kt ((nI_leI hb ha).mp q)) (fun q => kf (Nat.lt_of_not_le (fun z => q ((nI_leI hb ha).mpr z))))
theorem r_n_gt {a b tgt : Nat} (e : dC μ pc .gt npc tgt) (ha : a < 2147483648) (hb : b < 2147483648) (kt : b < a → G Y ad μ tgt ls st h) (kf : a ≤ b → G Y ad μ npc ls st h) : G Y ad μ pc ls (.int (nI b) :: .int (nI a) :: st) h := r_c_gt e (fun q => kt ((nI_ltI hb ha).mp q)) (fun q => kf (Nat.le_of_not_lt (fun z => q ((nI_ltI hb ha).mpr z))))
theorem r_n_le {a b tgt : Nat} (e : dC μ pc .le npc tgt) (ha : a < 2147483648) (hb : b < 2147483648) (kt : a ≤ b → G Y ad μ tgt ls st h) (kf : b < a → G Y ad μ npc ls st h) : G Y ad μ pc ls (.int (nI b) :: .int (nI a) :: st) h := r_c_le e (fun q => kt ((nI_leI ha hb).mp q)) (fun q => kf (Nat.lt_of_not_le (fun z => q ((nI_leI ha hb).mpr z))))
def bI (b : Bool) : Int32 := if b then 1 else 0
theorem bI_t : bI true = 1 := rfl
theorem bI_f : bI false = 0 := rfl
theorem r_b_eq {b : Bool} {tgt : Nat} (e : dZ μ pc .eq npc tgt) (kt : b = false → G Y ad μ tgt ls st h) (kf : b = true → G Y ad μ npc ls st h) : G Y ad μ pc ls (.int (bI b) :: st) h := by
  cases b
  · exact r_z_eq e (fun _ => kt rfl) (fun q => absurd rfl q)
  · exact r_z_eq e (fun q => absurd q (by decide)) (fun _ => kf rfl)
theorem r_b_ne {b : Bool} {tgt : Nat} (e : dZ μ pc .ne npc tgt) (kt : b = true → G Y ad μ tgt ls st h) (kf : b = false → G Y ad μ npc ls st h) : G Y ad μ pc ls (.int (bI b) :: st) h := by
  cases b
  · exact r_z_ne e (fun q => absurd rfl q) (fun _ => kf rfl)
  · exact r_z_ne e (fun _ => kt rfl) (fun q => absurd q (by decide))
theorem lgc (x y : Int64) : (lg_cmp x y < 0 ↔ x < y) ∧ (0 ≤ lg_cmp x y ↔ y ≤ x) ∧ (0 < lg_cmp x y ↔ y < x) ∧ (lg_cmp x y ≤ 0 ↔ x ≤ y) ∧ (lg_cmp x y = 0 ↔ x = y) := by
  unfold lg_cmp
  simp only [gt_iff_lt, Int64.lt_iff_toInt_lt, Int64.le_iff_toInt_le, ← Int64.toInt_inj]
  by_cases h1 : y.toInt < x.toInt
  · rw [if_pos h1]
    refine ⟨⟨fun q => absurd q (by decide), fun q => by omega⟩, ⟨fun _ => by omega, fun _ => by decide⟩, ⟨fun _ => h1, fun _ => by decide⟩, ⟨fun q => absurd q (by decide), fun q => by omega⟩, ⟨fun q => absurd q (by decide), fun q => by omega⟩⟩
  · rw [if_neg h1]
    by_cases h2 : x.toInt = y.toInt
    · rw [if_pos h2]
      refine ⟨⟨fun q => absurd q (by decide), fun q => by omega⟩, ⟨fun _ => by omega, fun _ => by decide⟩, ⟨fun q => absurd q (by decide), fun q => by omega⟩, ⟨fun _ => by omega, fun _ => by decide⟩, ⟨fun _ => h2, fun _ => rfl⟩⟩
    · rw [if_neg h2]
      refine ⟨⟨fun _ => by omega, fun _ => by decide⟩, ⟨fun q => absurd q (by decide), fun q => by omega⟩, ⟨fun q => absurd q (by decide), fun q => by omega⟩, ⟨fun _ => by omega, fun _ => by decide⟩, ⟨fun q => absurd q (by decide), fun q => by omega⟩⟩
theorem r_l_lt {x y : Int64} {np2 tgt : Nat} (e : dk μ pc .lcmp 1 npc) (e2 : dZ μ npc .lt np2 tgt) (kt : x < y → G Y ad μ tgt ls st h) (kf : ¬ x < y → G Y ad μ np2 ls st h) : G Y ad μ pc ls (.long y :: .long x :: st) h := r_lcmp e (r_z_lt e2 (fun q => kt ((lgc x y).1.mp q)) (fun q => kf (fun z => q ((lgc x y).1.mpr z))))
theorem r_l_ge {x y : Int64} {np2 tgt : Nat} (e : dk μ pc .lcmp 1 npc) (e2 : dZ μ npc .ge np2 tgt) (kt : y ≤ x → G Y ad μ tgt ls st h) (kf : ¬ y ≤ x → G Y ad μ np2 ls st h) : G Y ad μ pc ls (.long y :: .long x :: st) h := r_lcmp e (r_z_ge e2 (fun q => kt ((lgc x y).2.1.mp q)) (fun q => kf (fun z => q ((lgc x y).2.1.mpr z))))
theorem r_l_gt {x y : Int64} {np2 tgt : Nat} (e : dk μ pc .lcmp 1 npc) (e2 : dZ μ npc .gt np2 tgt) (kt : y < x → G Y ad μ tgt ls st h) (kf : ¬ y < x → G Y ad μ np2 ls st h) : G Y ad μ pc ls (.long y :: .long x :: st) h := r_lcmp e (r_z_gt e2 (fun q => kt ((lgc x y).2.2.1.mp q)) (fun q => kf (fun z => q ((lgc x y).2.2.1.mpr z))))
theorem r_l_le {x y : Int64} {np2 tgt : Nat} (e : dk μ pc .lcmp 1 npc) (e2 : dZ μ npc .le np2 tgt) (kt : x ≤ y → G Y ad μ tgt ls st h) (kf : ¬ x ≤ y → G Y ad μ np2 ls st h) : G Y ad μ pc ls (.long y :: .long x :: st) h := r_lcmp e (r_z_le e2 (fun q => kt ((lgc x y).2.2.2.1.mp q)) (fun q => kf (fun z => q ((lgc x y).2.2.2.1.mpr z))))
theorem r_l_eq {x y : Int64} {np2 tgt : Nat} (e : dk μ pc .lcmp 1 npc) (e2 : dZ μ npc .eq np2 tgt) (kt : x = y → G Y ad μ tgt ls st h) (kf : ¬ x = y → G Y ad μ np2 ls st h) : G Y ad μ pc ls (.long y :: .long x :: st) h := r_lcmp e (r_z_eq e2 (fun q => kt ((lgc x y).2.2.2.2.mp q)) (fun q => kf (fun z => q ((lgc x y).2.2.2.2.mpr z))))
theorem r_l_ne {x y : Int64} {np2 tgt : Nat} (e : dk μ pc .lcmp 1 npc) (e2 : dZ μ npc .ne np2 tgt) (kt : ¬ x = y → G Y ad μ tgt ls st h) (kf : x = y → G Y ad μ np2 ls st h) : G Y ad μ pc ls (.long y :: .long x :: st) h := r_lcmp e (r_z_ne e2 (fun q => kt (fun z => q ((lgc x y).2.2.2.2.mpr z))) (fun q => kf ((lgc x y).2.2.2.2.mp q)))
theorem r_m_eq {a b np2 tgt : Nat} (e : dk μ pc .lcmp 1 npc) (e2 : dZ μ npc .eq np2 tgt) (ha : a < 2 ^ 63) (hb : b < 2 ^ 63) (kt : a = b → G Y ad μ tgt ls st h) (kf : a ≠ b → G Y ad μ np2 ls st h) : G Y ad μ pc ls (.long (lN b) :: .long (lN a) :: st) h := r_l_eq e e2 (fun q => kt ((pk_lEQ ha hb).mp q)) (fun q => kf (fun z => q ((pk_lEQ ha hb).mpr z)))
theorem r_m_ne {a b np2 tgt : Nat} (e : dk μ pc .lcmp 1 npc) (e2 : dZ μ npc .ne np2 tgt) (ha : a < 2 ^ 63) (hb : b < 2 ^ 63) (kt : a ≠ b → G Y ad μ tgt ls st h) (kf : a = b → G Y ad μ np2 ls st h) : G Y ad μ pc ls (.long (lN b) :: .long (lN a) :: st) h := r_l_ne e e2 (fun q => kt (fun z => q ((pk_lEQ ha hb).mpr z))) (fun q => kf ((pk_lEQ ha hb).mp q))
theorem r_m_lt {a b np2 tgt : Nat} (e : dk μ pc .lcmp 1 npc) (e2 : dZ μ npc .lt np2 tgt) (ha : a < 2 ^ 63) (hb : b < 2 ^ 63) (kt : a < b → G Y ad μ tgt ls st h) (kf : b ≤ a → G Y ad μ np2 ls st h) : G Y ad μ pc ls (.long (lN b) :: .long (lN a) :: st) h := r_l_lt e e2 (fun q => kt ((pk_lLT ha hb).mp q)) (fun q => kf (Nat.le_of_not_lt (fun z => q ((pk_lLT ha hb).mpr z))))
theorem r_m_ge {a b np2 tgt : Nat} (e : dk μ pc .lcmp 1 npc) (e2 : dZ μ npc .ge np2 tgt) (ha : a < 2 ^ 63) (hb : b < 2 ^ 63) (kt : b ≤ a → G Y ad μ tgt ls st h) (kf : a < b → G Y ad μ np2 ls st h) : G Y ad μ pc ls (.long (lN b) :: .long (lN a) :: st) h := r_l_ge e e2 (fun q => kt ((pk_lLE hb ha).mp q)) (fun q => kf (Nat.lt_of_not_le (fun z => q ((pk_lLE hb ha).mpr z))))
theorem r_m_gt {a b np2 tgt : Nat} (e : dk μ pc .lcmp 1 npc) (e2 : dZ μ npc .gt np2 tgt) (ha : a < 2 ^ 63) (hb : b < 2 ^ 63) (kt : b < a → G Y ad μ tgt ls st h) (kf : a ≤ b → G Y ad μ np2 ls st h) : G Y ad μ pc ls (.long (lN b) :: .long (lN a) :: st) h := r_l_gt e e2 (fun q => kt ((pk_lLT hb ha).mp q)) (fun q => kf (Nat.le_of_not_lt (fun z => q ((pk_lLT hb ha).mpr z))))
theorem r_m_le {a b np2 tgt : Nat} (e : dk μ pc .lcmp 1 npc) (e2 : dZ μ npc .le np2 tgt) (ha : a < 2 ^ 63) (hb : b < 2 ^ 63) (kt : a ≤ b → G Y ad μ tgt ls st h) (kf : b < a → G Y ad μ np2 ls st h) : G Y ad μ pc ls (.long (lN b) :: .long (lN a) :: st) h := r_l_le e e2 (fun q => kt ((pk_lLE ha hb).mp q)) (fun q => kf (Nat.lt_of_not_le (fun z => q ((pk_lLE ha hb).mpr z))))
end RULES

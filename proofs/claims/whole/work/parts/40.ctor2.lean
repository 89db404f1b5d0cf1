abbrev cRoom (μ : Mth) (mc ms : Nat) : Room := { frames := μ.2.2.2.2.2.1, cells := mc, slots := ms, locals := μ.2.2.2.2.2.2 }
def kPre (D : va_G × (Nat → ClassId)) (A : Nat → Prop) (q ci : Nat) (fs : List Value) (U : State) : Prop := va_P D.1 vwCl [(q, .inr (ci, fs))] U.heap ∧ va_K D.1 vwCl (tysOf D.2) U ∧ va_D A [(q, .inr (ci, fs))] ∧ (∀ x, U.heap.size ≤ x → A x) ∧ XT U
def kPost (D : va_G × (Nat → ClassId)) (A : Nat → Prop) (Post : (Nat → ClassId) → va_W → Prop) : Array Value → State → Outcome → State → Prop := fun _ st oc t => (∃ w1 : va_W, oc = .returned none ∧ Post D.2 w1 ∧ va_P D.1 vwCl w1 t.heap ∧ va_K D.1 vwCl (tysOf D.2) t ∧ va_D A w1) ∧ va_F A st t
/-- THE CONTRACT of a constructor: from the object as it is born to the cells that it then has -/
def KC (μ : Mth) (mc ms ci : Nat) (fs : List Value) (Post : Nat → (Nat → ClassId) → va_W → Prop) : Prop := ∀ (l : Launch) (D : va_G × (Nat → ClassId)) (A : Nat → Prop) (q : Nat), Met l μ.1 (mWs μ) (cRoom μ mc ms) (va_Pc [.ref q] (kPre D A q ci fs)) (kPost D A (Post q)) mc ms A
def IsK (Y : Env3) (mc ms : Nat) (Post : (Nat → ClassId) → va_W → Prop) : Prop := Y.1.2.2.2.2.2.2.2.2.2.2.2.2 = MQ Y.1.2.2.2.2.2.2.2.1 (kPost Y.2.1 Y.2.2 Post) Y.1.2.2.2.2.2.2.1 Y.1.2.2.2.2.1 mc ms Y.2.2
theorem KC.mk {μ : Mth} {mc ms ci : Nat} {fs : List Value} {Post : Nat → (Nat → ClassId) → va_W → Prop} (hok : plainName μ.1.cls = true) (hcl : μ.2.2.2.2.1 = μ.1.cls) (ls : Nat → List (Option Value)) (hls : ∀ q, lvp 0 (ls q) = lv_args 0 [.ref q]) (hlen : 1 ≤ μ.2.2.1) (k : ∀ (Y : Env3) (q : Nat), IsK Y mc ms (Post q) → CG Y μ mc ms 0 (ls q) [] [(q, .inr (ci, fs))] 0 0) : KC μ mc ms ci fs Post := by
  intro l D A q
  refine Met.ofW (cc := μ.2.1) (maxL := μ.2.2.1) (ret := μ.2.2.2.1) hok rfl ?_
  intro p e s m args below meth c s₁ B hml hv
  obtain ⟨rfl, hP, hK, hD, hA, hX⟩ := hv
  have hts := atoms_spec (ws := mWs μ) B.pre
  have hown : s.vm.findClass μ.2.2.2.2.1 = some m.cls := by rw [hcl]; exact findClass_of_methodNamed B.named
  rw [lg_entry_eq]
  have hl := lv_entry [.ref q] (n := μ.2.2.1) hlen
  rw [← hls q] at hl
  exact k ((p, l, e, (headSpec (mWs μ) (cRoom μ mc ms)).room, s, m, [Value.ref q].toArray, below, meth, c, 0, 0, MQ below (kPost D A (Post q)) [Value.ref q].toArray s mc ms A), D, A) q rfl ⟨B.exec, B.bytes, B.returns, hml, hown, fun w hw => hts w (List.mem_cons_of_mem _ hw), B.notSynchronized, hK, hA, rfl, rfl, rfl, rfl, fun hn => (name_of_methodNamed B.named B.method).1.trans hn, hX⟩ s.heap [] _ hP hD va_S.rf hl
theorem P_last {D : va_G} {cl : List vw_C} {X : va_W} {x : Nat × va_E} {H : Heap} (hP : va_P D cl (X ++ [x]) H) : va_P D cl [x] H := fun k y hy => hP (X.length + k) y (by rw [List.getElem?_append_right (by omega), Nat.add_sub_cancel_left]; exact hy)
theorem D_last {A : Nat → Prop} {X : va_W} {x : Nat × va_E} (hD : va_D A (X ++ [x])) : va_D A [x] := by
  have at' : ∀ (k : Nat) (y : Nat × va_E), [x][k]? = some y → (X ++ [x])[X.length + k]? = some y := fun k y hy => by rw [List.getElem?_append_right (by omega), Nat.add_sub_cancel_left]; exact hy
  exact ⟨fun i j p q hi hj e => by have := hD.1 _ _ p q (at' i p hi) (at' j q hj) e; omega, fun k y hy => hD.2 _ y (at' k y hy)⟩
theorem joinE {A0 : Nat → Prop} {D : va_G} {cl : List vw_C} {X w1 : va_W} {q : Nat} {e : va_E} {H H1 : Heap} (hP : va_P D cl (X ++ [(q, e)]) H) (hD : va_D A0 (X ++ [(q, e)])) (hk : ∀ x : Nat, x < H.size → ¬ va_A [(q, e)] H.size x → H1[x]? = H[x]?) (hF : ∀ x, va_A [(q, e)] H.size x → A0 x) (hP1 : va_P D cl w1 H1) (hD1 : va_D (va_A [(q, e)] H.size) w1) : va_P D cl (X ++ w1) H1 ∧ va_D A0 (X ++ w1) := by
  have inX : ∀ (k : Nat) (y : Nat × va_E), X[k]? = some y → k < X.length ∧ (X ++ [(q, e)])[k]? = some y := fun k y hy => by
    have hl := (List.getElem?_eq_some_iff.mp hy).1
    exact ⟨hl, by rw [List.getElem?_append_left hl]; exact hy⟩
  have apart : ∀ (k : Nat) (y : Nat × va_E), X[k]? = some y → y.1 < H.size ∧ ¬ va_A [(q, e)] H.size y.1 := by
    intro k y hy
    obtain ⟨h1, h2⟩ := inX k y hy
    have hl := (hP k y h2).lt
    refine ⟨hl, fun h => ?_⟩
    rcases h with ⟨k2, e2, h⟩ | h
    · have hz : k2 < 1 := (List.getElem?_eq_some_iff.mp h).1
      rw [show k2 = 0 by omega] at h
      have h9 : q = y.1 := congrArg Prod.fst (Option.some.inj h)
      have h3 : (X ++ [(q, e)])[X.length]? = some (q, e) := by rw [List.getElem?_append_right (Nat.le_refl _), Nat.sub_self]; rfl
      have := hD.1 k X.length y (q, e) h2 h3 h9.symm
      omega
    · omega
  refine ⟨va_P.app (fun k y hy => ?_) hP1, va_D.app ⟨fun i j x y hx hy hxy => hD.1 i j x y (inX i x hx).2 (inX j y hy).2 hxy, fun k y hy => hD.2 k y (inX k y hy).2⟩ (hD1.weaken (fun k y _ h => hF y.1 h)) (fun i j x y hx hy hxy => ?_)⟩
  · obtain ⟨g1, g2⟩ := apart k y hy
    exact (hP k y (inX k y hy).2).kept (hk y.1 g1 g2)
  · exact (apart i x hx).2 (by rw [hxy]; exact hD1.2 j y hy)
def okC (μ : Mth) : Prop := dW (.code μ.1 μ.2.1 μ.2.2.1 none) ∧ μ.2.2.2.1 = none ∧ dW (.initialized μ.1.cls) ∧ (μ.1.cls ≠ "java/lang/invoke/MethodHandle" ∧ μ.1.cls ≠ "java/lang/invoke/VarHandle") ∧ μ.1.desc = "()V" ∧ μ.1.name = "<init>" ∧ dW (.instanceMethod μ.1)
theorem good_wsC {μ' : Mth} (hok : okC μ') : GoodIn gT (mWs μ') := by
  intro w hw
  have hm : w ∈ gT := (List.mem_cons.mp hw).elim (fun q => by rw [q, hok.2.1]; exact gW hok.1 rfl) id
  exact ⟨hm, good_of_word (List.mem_filter.mp hm).2⟩
theorem kBlind {D : va_G × (Nat → ClassId)} {A : Nat → Prop} {q ci : Nat} {fs : List Value} {As : List Value} : FrameBlind (va_Pc As (kPre D A q ci fs)) := fun a U g mk z => ⟨z.1, z.2.1, va_K.moved (u := U) (U := U.calling g mk a) (Vm.Alike.refl U.vm) z.2.2.1, z.2.2.2.1, z.2.2.2.2.1, XT.same (u := U) (U := U.calling g mk a) rfl z.2.2.2.2.2⟩
section CTOR2
variable {Y : Env3} {μ μ' : Mth} {mc ms mc' ms' pc npc : Nat} {ls : List (Option Value)} {st : List Value} {cells slots : Nat} {X : va_W} {ix q ci : Nat} {fs : List Value} {Post : Nat → (Nat → ClassId) → va_W → Prop}
theorem c_call0 (hb : Y.1.2.2.2.2.2.2.2.2.2.1.code = μ.2.1) (run : ∀ (H : Heap) (locs : List Loc) (lsc : Array Slot), CxC Y μ mc ms → va_P Y.2.1.1 vwCl (X ++ [(q, .inr (ci, fs))]) H → va_D Y.2.2 (X ++ [(q, .inr (ci, fs))]) → va_S Y.2.2 Y.1.2.2.2.2.1.heap H locs → lv_has lsc μ.2.2.1 (lvp 0 ls) → va_Run Y.1.1 Y.1.2.1 Y.1.2.2.1 Y.1.2.2.2.1 Y.1.2.2.2.2.1 Y.1.2.2.2.2.2.1 Y.1.2.2.2.2.2.2.1 Y.1.2.2.2.2.2.2.2.1 Y.1.2.2.2.2.2.2.2.2.1 Y.1.2.2.2.2.2.2.2.2.2.1 H locs cells slots mc' ms' (F0 Y.1.2.2.2.2.2.1 pc lsc (.ref q :: st)) st (kPost Y.2.1 (va_A [(q, .inr (ci, fs))] H.size) (Post q) [Value.ref q].toArray) (va_A [(q, .inr (ci, fs))] H.size)) (kk : ∀ w1, Post q Y.2.1.2 w1 → CG Y μ mc ms (pc + 3) ls st (X ++ w1) (cells + mc') (slots + ms')) : CG Y μ mc ms pc ls (.ref q :: st) (X ++ [(q, .inr (ci, fs))]) cells slots := by
  intro C H locs lsc hP hD hS hl T hT Xs
  obtain ⟨v, st₀, t, T', L, h0, X', hL, e1, e2, ⟨⟨w1, hv, hPo, hP1, hK1, hD1⟩, hz, hkp⟩, go⟩ := run H locs lsc C hP hD hS hl T hT Xs
  cases hv
  rw [h0] at hz hkp
  have hF : ∀ x, va_A [(q, .inr (ci, fs))] H.size x → Y.2.2 x := fun x h => by
    rcases h with ⟨k, e, h⟩ | h
    · exact (D_last hD).2 k _ h
    · exact C.2.2.2.2.2.2.2.2.1 x (Nat.le_trans hS.1 h)
  obtain ⟨hP2, hD2⟩ := joinE hP hD hkp hF hP1 hD1
  have hS1 : va_S Y.2.2 Y.1.2.2.2.2.1.heap T'.heap (locs ++ L) := ⟨Nat.le_trans hS.1 (by rw [e1]; exact hz), fun x h1 h2 => by rw [e1, hkp x (Nat.lt_of_lt_of_le h1 hS.1) (fun z => h2 (hF x z))]; exact hS.2.1 x h1 h2, fun x hx => by
    rcases List.mem_append.mp hx with h | h
    · exact hS.2.2 x h
    · exact hF _ (hL x h)⟩
  obtain ⟨t2, a1, b1⟩ := kk w1 hPo C T'.heap (locs ++ L) lsc (by rw [e1]; exact hP2) hD2 hS1 hl T' rfl X'
  exact ⟨t2, go t2 a1, b1⟩
theorem kPS {H : Heap} (C : CxC Y μ mc ms) (hP : va_P Y.2.1.1 vwCl (X ++ [(q, .inr (ci, fs))]) H) (hD : va_D Y.2.2 (X ++ [(q, .inr (ci, fs))])) : PreS Y.1.2.2.2.2.1 H (va_Pc [.ref q] (kPre Y.2.1 (va_A [(q, .inr (ci, fs))] H.size) q ci fs)) [.ref q] := ⟨kBlind, fun U hU hW => ⟨rfl, by rw [hU]; exact P_last hP, va_K.moved hW.alike C.2.2.2.2.2.2.2.1, (D_last hD).self, fun x hx => Or.inr (by rw [← hU]; exact hx), XT.warm hW C.2.2.2.2.2.2.2.2.2.2.2.2.2.2⟩⟩
theorem dOf {μ' : Mth} (hok : okC μ') : μ'.1.cls ≠ "java/lang/invoke/MethodHandle" ∧ μ'.1.cls ≠ "java/lang/invoke/VarHandle" ∧ (parseMethodDescriptor μ'.1.desc).map (fun d => d.parameters.length) = some 0 := ⟨hok.2.2.2.1.1, hok.2.2.2.1.2, by rw [hok.2.2.2.2.1]; decide +kernel⟩
/-- a constructor of a nest mate -/
theorem c_callN (hd : decode μ.2.1 pc = .ok (.invokespecial ix, 3)) (hok : okC μ') (hn : XT Y.1.2.2.2.2.1 → va_Nw (.methodLinkNest μ.2.2.2.2.1 ix μ'.1 RX3) Y.1.2.2.2.2.1) (hr : rOk μ μ') (hK : KC μ' mc' ms' ci fs Post) (hc : cells + mc' ≤ mc) (hs : slots + ms' ≤ ms) (kk : ∀ w1, Post q Y.2.1.2 w1 → CG Y μ mc ms (pc + 3) ls st (X ++ w1) (cells + mc') (slots + ms')) (hst : (st.map fun v => v.category).sum ≤ 8 := by exact Nat.le_of_ble_eq_true rfl) : CG Y μ mc ms pc ls (.ref q :: st) (X ++ [(q, .inr (ci, fs))]) cells slots := by
  intro C0
  refine c_call0 (mc' := mc') (ms' := ms') (Post := Post) C0.2.1 (fun H locs lsc C hP hD hS hl => ?_) kk C0
  exact va_runIN (As := []) (nL := μ.2.2.1) (cc := μ.2.1) ⟨C.1, C.2.1, C.2.2.2.1, C.2.2.2.2.1, C.2.2.2.2.2.1⟩ (hK Y.1.2.1 Y.2.1 (va_A [(q, .inr (ci, fs))] H.size) q) ⟨va_cnB (bytes := μ'.2.1) (maxL := μ'.2.2.1) 0 C.2.2.2.2.2.1 (good_wsC hok) (by rw [mWs, hok.2.1]) rfl rfl (hn C.2.2.2.2.2.2.2.2.2.2.2.2.2.2) (C.2.2.2.2.2.1 _ (gW hok.2.2.1 rfl)) (dOf hok) ⟨by rw [C.2.2.2.2.2.2.2.2.2.1]; exact hr.1, by rw [C.2.2.2.2.2.2.2.2.2.2.1]; exact hr.2⟩, hok.2.2.2.2.2.1, C.2.2.2.2.2.1 _ (gW hok.2.2.2.2.2.2 rfl)⟩ (kPS C hP hD) rfl rfl hl.1 rfl (lv_room hst) hd ⟨by rw [C.2.2.2.2.2.2.2.2.2.2.2.1]; exact hc, by rw [C.2.2.2.2.2.2.2.2.2.2.2.2.1]; exact hs⟩
/-- a constructor -/
theorem c_callI (hd : decode μ.2.1 pc = .ok (.invokespecial ix, 3)) (hok : okC μ') (hw : dW (.methodLink μ.2.2.2.2.1 ix μ'.1)) (hr : rOk μ μ') (hK : KC μ' mc' ms' ci fs Post) (hc : cells + mc' ≤ mc) (hs : slots + ms' ≤ ms) (kk : ∀ w1, Post q Y.2.1.2 w1 → CG Y μ mc ms (pc + 3) ls st (X ++ w1) (cells + mc') (slots + ms')) (hst : (st.map fun v => v.category).sum ≤ 8 := by exact Nat.le_of_ble_eq_true rfl) : CG Y μ mc ms pc ls (.ref q :: st) (X ++ [(q, .inr (ci, fs))]) cells slots := by
  intro C0
  refine c_call0 (mc' := mc') (ms' := ms') (Post := Post) C0.2.1 (fun H locs lsc C hP hD hS hl => ?_) kk C0
  exact va_runI (As := []) (nL := μ.2.2.1) (cc := μ.2.1) ⟨C.1, C.2.1, C.2.2.2.1, C.2.2.2.2.1, C.2.2.2.2.2.1⟩ (hK Y.1.2.1 Y.2.1 (va_A [(q, .inr (ci, fs))] H.size) q) ⟨callB_of (bytes := μ'.2.1) (maxL := μ'.2.2.1) 0 C.2.2.2.2.2.1 (good_wsC hok) (by rw [mWs, hok.2.1]) rfl rfl (C.2.2.2.2.2.1 _ (gW hok.2.2.1 rfl)) (C.2.2.2.2.2.1 _ (gW hw rfl)) (dOf hok) ⟨by rw [C.2.2.2.2.2.2.2.2.2.1]; exact hr.1, by rw [C.2.2.2.2.2.2.2.2.2.2.1]; exact hr.2⟩, hok.2.2.2.2.2.1, C.2.2.2.2.2.1 _ (gW hok.2.2.2.2.2.2 rfl)⟩ (kPS C hP hD) rfl rfl hl.1 rfl (lv_room hst) hd ⟨by rw [C.2.2.2.2.2.2.2.2.2.2.2.1]; exact hc, by rw [C.2.2.2.2.2.2.2.2.2.2.2.2.1]; exact hs⟩
/-- the saves -/
theorem c_anew {n : Nat} {ws : va_W} (hd : decode μ.2.1 pc = .ok (.anewarray ix, 3)) (hw : dW (.classLink μ.2.2.2.2.1 ix RX0)) (hn : n < 401) (hc : cells + 1 ≤ mc) (hs : slots + n ≤ ms) (kk : ∀ a, CG Y μ mc ms (pc + 3) ls (.ref a :: st) (ws ++ [(a, .inl (Y.2.1.2 3, n, .inr (.inr (.inr (.inr (fun _ => none))))))]) (cells + 1) (slots + n)) : CG Y μ mc ms pc ls (.int (nI n) :: st) ws cells slots := by
  intro C H locs lsc hP hD hS hl
  have hK := C.2.2.2.2.2.2.2.1
  refine va_newq (C := RX0) (N' := n) C.1 C.2.1 C.2.2.2.2.1 (C.2.2.2.2.2.1 _ (gW hw rfl)) C.2.2.2.2.2.2.2.2.2.2.2.2.2.2.2.1 hK hP hD hS C.2.2.2.2.2.2.2.2.1 (nI_pos (by omega)) (nI_clamp (by omega)) (by omega) (by rw [C.2.2.2.2.2.2.2.2.2.2.2.1]; exact hc) (by rw [C.2.2.2.2.2.2.2.2.2.2.2.2.1]; exact hs) hd (fun a cA H1 hK1 hP1 hD1 hS1 => ?_)
  have e : cA = Y.2.1.2 3 := Option.some.inj ((va_nmO (hK1.2 5 _ rfl).2 rfl).symm.trans (va_nmO (hK.2 3 _ rfl).2 rfl))
  rw [e] at hP1 hD1
  exact kk a C H1 locs lsc hP1 hD1 hS1 hl
theorem c_aast {i n a v q0 qk : Nat} {vs : List Value} {f : Nat → Option Nat} {ws : va_W} (e : dk μ pc .aastore 1 npc) (ha : ws[q0]? = some (a, .inl (Y.2.1.2 3, n, .inr (.inr (.inr (.inr f)))))) (hv : ws[qk]? = some (v, .inr (0, vs))) (hi : i < n) (hn : n < 401) (kk : CG Y μ mc ms npc ls st (ws.set q0 (a, .inl (Y.2.1.2 3, n, .inr (.inr (.inr (.inr (va_up f i (some v)))))))) cells slots) : CG Y μ mc ms pc ls (.ref v :: .int (nI i) :: .ref a :: st) ws cells slots := by
  intro C H locs lsc hP hD hS hl
  obtain ⟨hd, rfl⟩ := e
  obtain ⟨h1, h2⟩ := nI_cl hi hn
  refine va_astq (r := (RX0, TX0, 9)) C.1 C.2.1 C.2.2.2.2.2.2.2.1 hP hD hS q0 3 qk 0 ha rfl hv rfl h1 hd (fun H1 locs1 hP1 hD1 hS1 => ?_)
  rw [h2] at hP1 hD1
  exact kk C H1 locs1 lsc hP1 hD1 hS1 hl
end CTOR2

def f0X0 : List Value := [.int 0, .int 0, .int 0, .null, .null, .null, .null, .null, .null]
theorem okcX0 : okC mX0_init := ⟨dW_at 131 (by decide +kernel), rfl, dW_at 30 (by decide +kernel), by decide +kernel, by decide +kernel, by decide +kernel, dW_at 130 (by decide +kernel)⟩
def f0X1 : List Value := [.int 0, .long 0, .long 0, .int 0, .null, .null, .null]
theorem okcX1 : okC mX1_init := ⟨dW_at 97 (by decide +kernel), rfl, dW_at 29 (by decide +kernel), by decide +kernel, by decide +kernel, by decide +kernel, dW_at 96 (by decide +kernel)⟩
def f0X2 : List Value := [.int 0, .null, .null, .null, .null, .null, .null, .null, .null, .null]
theorem okcX2 : okC mX2_init := ⟨dW_at 47 (by decide +kernel), rfl, dW_at 28 (by decide +kernel), by decide +kernel, by decide +kernel, by decide +kernel, dW_at 46 (by decide +kernel)⟩
def f0X3 : List Value := [.null, .null, .null, .null, .null, .int 0, .int 0]
theorem okcX3 : okC mX3_init := ⟨dW_at 39 (by decide +kernel), rfl, dW_at 27 (by decide +kernel), by decide +kernel, by decide +kernel, by decide +kernel, dW_at 38 (by decide +kernel)⟩
def f0X4 : List Value := [.int 0, .null, .null, .null, .null, .null, .null, .int 0, .int 0, .null, .null, .null, .null, .null, .null, .null, .null, .null, .int 0, .null, .null, .int 0, .null, .null, .null]
theorem okcX4 : okC mX4_init := ⟨dW_at 483 (by decide +kernel), rfl, dW_at 31 (by decide +kernel), by decide +kernel, by decide +kernel, by decide +kernel, dW_at 482 (by decide +kernel)⟩
def wLst (ca : Nat → ClassId) (a : Nat → Nat) : va_W := [(a 0, .inr (0, [.int (-1), .int 0, .int 0, .ref (a 1), .ref (a 2), .ref (a 3), .ref (a 4), .ref (a 5), .ref (a 6)])), (a 1, .inl (ca 0, 60, .inl (fun _ => 0))), (a 2, .inl (ca 0, 60, .inl (fun _ => 0))), (a 3, .inl (ca 1, 60, .inr (.inl (fun _ => 0)))), (a 4, .inl (ca 1, 8, .inr (.inl (fun _ => 0)))), (a 5, .inl (ca 1, 20, .inr (.inl (fun _ => 0)))), (a 6, .inl (ca 1, 20, .inr (.inl (fun _ => 0))))]
def pX0 : Nat → (Nat → ClassId) → va_W → Prop := fun q ca w => ∃ (a : Nat → Nat), a 0 = q ∧ w = wLst ca a
theorem bX0_init_1 : decode mX0_init.2.1 1 = .ok (.invokespecial 3, 3) := by decide +kernel
theorem bX0_init_12 : decode mX0_init.2.1 12 = .ok (.newarray .int, 2) := by decide +kernel
theorem bX0_init_20 : decode mX0_init.2.1 20 = .ok (.newarray .int, 2) := by decide +kernel
theorem bX0_init_28 : decode mX0_init.2.1 28 = .ok (.newarray .long, 2) := by decide +kernel
theorem bX0_init_36 : decode mX0_init.2.1 36 = .ok (.newarray .long, 2) := by decide +kernel
theorem bX0_init_44 : decode mX0_init.2.1 44 = .ok (.newarray .long, 2) := by decide +kernel
theorem bX0_init_52 : decode mX0_init.2.1 52 = .ok (.newarray .long, 2) := by decide +kernel
set_option maxRecDepth 20000 in
theorem K_X0_init : KC mX0_init 6 228 0 f0X0 pX0 := by
  refine KC.mk (by decide +kernel) rfl (fun q => [some (.ref q)]) (fun q => rfl) (by decide) (fun Y q hM => ?_)
  refine c_al aX0_init_0 rfl ?_
  refine c_obj bX0_init_1 (dW_at 132 (by decide +kernel)) (by decide) (by decide) ?_
  refine c_al aX0_init_4 rfl ?_
  refine c_ki aX0_init_5 ?_
  refine c_putI (ty := .int) aX0_init_6 rfl (by decide +kernel) rfl rfl (Nat.le_of_ble_eq_true rfl) ?_
  refine c_al aX0_init_9 rfl ?_
  refine c_ki aX0_init_10 ?_
  refine c_newI bX0_init_12 (by decide) (by decide) (by decide) (fun q1 => ?_)
  refine c_putF (ty := .array (.int)) aX0_init_14 rfl rfl rfl (by decide +kernel) rfl rfl (Nat.le_of_ble_eq_true rfl) ?_
  refine c_al aX0_init_17 rfl ?_
  refine c_ki aX0_init_18 ?_
  refine c_newI bX0_init_20 (by decide) (by decide) (by decide) (fun q2 => ?_)
  refine c_putF (ty := .array (.int)) aX0_init_22 rfl rfl rfl (by decide +kernel) rfl rfl (Nat.le_of_ble_eq_true rfl) ?_
  refine c_al aX0_init_25 rfl ?_
  refine c_ki aX0_init_26 ?_
  refine c_newJ bX0_init_28 (by decide) (by decide) (by decide) (fun q3 => ?_)
  refine c_putF (ty := .array (.long)) aX0_init_30 rfl rfl rfl (by decide +kernel) rfl rfl (Nat.le_of_ble_eq_true rfl) ?_
  refine c_al aX0_init_33 rfl ?_
  refine c_ki aX0_init_34 ?_
  refine c_newJ bX0_init_36 (by decide) (by decide) (by decide) (fun q4 => ?_)
  refine c_putF (ty := .array (.long)) aX0_init_38 rfl rfl rfl (by decide +kernel) rfl rfl (Nat.le_of_ble_eq_true rfl) ?_
  refine c_al aX0_init_41 rfl ?_
  refine c_ki aX0_init_42 ?_
  refine c_newJ bX0_init_44 (by decide) (by decide) (by decide) (fun q5 => ?_)
  refine c_putF (ty := .array (.long)) aX0_init_46 rfl rfl rfl (by decide +kernel) rfl rfl (Nat.le_of_ble_eq_true rfl) ?_
  refine c_al aX0_init_49 rfl ?_
  refine c_ki aX0_init_50 ?_
  refine c_newJ bX0_init_52 (by decide) (by decide) (by decide) (fun q6 => ?_)
  refine c_putF (ty := .array (.long)) aX0_init_54 rfl rfl rfl (by decide +kernel) rfl rfl (Nat.le_of_ble_eq_true rfl) ?_
  refine c_vret aX0_init_57 rfl hM (fun C t hP hK hD hF => ⟨⟨_, rfl, ⟨fun k => match k with
    | 0 => q
    | 1 => q1
    | 2 => q2
    | 3 => q3
    | 4 => q4
    | 5 => q5
    | _ => q6
    , rfl, rfl⟩, hP, hK, hD⟩, hF⟩)
def wShr (ca : Nat → ClassId) (a : Nat → Nat) : va_W := [(a 0, .inr (1, [.int 0, .long 0, .long 0, .int 0, .ref (a 1), .ref (a 2), .ref (a 3)])), (a 1, .inl (ca 0, 32, .inl (fun _ => 0))), (a 2, .inl (ca 0, 32, .inl (fun _ => 0))), (a 3, .inl (ca 1, 32, .inr (.inl (fun _ => 0))))]
def pX1 : Nat → (Nat → ClassId) → va_W → Prop := fun q ca w => ∃ (a : Nat → Nat), a 0 = q ∧ w = wShr ca a
theorem bX1_init_1 : decode mX1_init.2.1 1 = .ok (.invokespecial 3, 3) := by decide +kernel
theorem bX1_init_7 : decode mX1_init.2.1 7 = .ok (.newarray .int, 2) := by decide +kernel
theorem bX1_init_15 : decode mX1_init.2.1 15 = .ok (.newarray .int, 2) := by decide +kernel
theorem bX1_init_23 : decode mX1_init.2.1 23 = .ok (.newarray .long, 2) := by decide +kernel
set_option maxRecDepth 20000 in
theorem K_X1_init : KC mX1_init 3 96 1 f0X1 pX1 := by
  refine KC.mk (by decide +kernel) rfl (fun q => [some (.ref q)]) (fun q => rfl) (by decide) (fun Y q hM => ?_)
  refine c_al aX1_init_0 rfl ?_
  refine c_obj bX1_init_1 (dW_at 98 (by decide +kernel)) (by decide) (by decide) ?_
  refine c_al aX1_init_4 rfl ?_
  refine c_ki aX1_init_5 ?_
  refine c_newI bX1_init_7 (by decide) (by decide) (by decide) (fun q1 => ?_)
  refine c_putF (ty := .array (.int)) aX1_init_9 rfl rfl rfl (by decide +kernel) rfl rfl (Nat.le_of_ble_eq_true rfl) ?_
  refine c_al aX1_init_12 rfl ?_
  refine c_ki aX1_init_13 ?_
  refine c_newI bX1_init_15 (by decide) (by decide) (by decide) (fun q2 => ?_)
  refine c_putF (ty := .array (.int)) aX1_init_17 rfl rfl rfl (by decide +kernel) rfl rfl (Nat.le_of_ble_eq_true rfl) ?_
  refine c_al aX1_init_20 rfl ?_
  refine c_ki aX1_init_21 ?_
  refine c_newJ bX1_init_23 (by decide) (by decide) (by decide) (fun q3 => ?_)
  refine c_putF (ty := .array (.long)) aX1_init_25 rfl rfl rfl (by decide +kernel) rfl rfl (Nat.le_of_ble_eq_true rfl) ?_
  refine c_vret aX1_init_28 rfl hM (fun C t hP hK hD hF => ⟨⟨_, rfl, ⟨fun k => match k with
    | 0 => q
    | 1 => q1
    | 2 => q2
    | _ => q3
    , rfl, rfl⟩, hP, hK, hD⟩, hF⟩)
def wMod (ca : Nat → ClassId) (a : Nat → Nat) : va_W := [(a 0, .inr (4, [.int 0, .ref (a 1), .ref (a 2), .ref (a 3), .ref (a 4), .ref (a 5), .ref (a 6), .int 0, .int 0, .ref (a 7), .ref (a 8), .ref (a 9), .ref (a 10), .ref (a 11), .ref (a 12), .ref (a 13), .ref (a 14), .ref (a 15), .int 0, .ref (a 16), .ref (a 17), .int 0, .ref (a 18), .ref (a 19), .ref (a 20)])), (a 1, .inl (ca 0, 20, .inl (fun _ => 0))), (a 2, .inl (ca 0, 20, .inl (fun _ => 0))), (a 3, .inl (ca 0, 400, .inl (fun _ => 0))), (a 4, .inl (ca 0, 400, .inl (fun _ => 0))), (a 5, .inl (ca 0, 20, .inl (fun _ => 0))), (a 6, .inl (ca 0, 20, .inl (fun _ => 0))), (a 7, .inl (ca 2, 5, .inl (fun _ => 0))), (a 8, .inl (ca 0, 5, .inl (fun _ => 0))), (a 9, .inl (ca 0, 5, .inl (fun _ => 0))), (a 10, .inl (ca 0, 5, .inl (fun _ => 0))), (a 11, .inl (ca 0, 300, .inl (fun _ => 0))), (a 12, .inl (ca 0, 300, .inl (fun _ => 0))), (a 13, .inl (ca 1, 300, .inr (.inl (fun _ => 0)))), (a 14, .inl (ca 1, 40, .inr (.inl (fun _ => 0)))), (a 15, .inl (ca 1, 100, .inr (.inl (fun _ => 0)))), (a 16, .inl (ca 0, 20, .inl (fun _ => 0))), (a 17, .inl (ca 2, 20, .inl (fun _ => 0))), (a 18, .inl (ca 0, 40, .inl (fun _ => 0))), (a 19, .inl (ca 0, 40, .inl (fun _ => 0))), (a 20, .inl (ca 1, 40, .inr (.inl (fun _ => 0))))]
def pX4 : Nat → (Nat → ClassId) → va_W → Prop := fun q ca w => ∃ (a : Nat → Nat), a 0 = q ∧ w = wMod ca a
theorem bX4_init_1 : decode mX4_init.2.1 1 = .ok (.invokespecial 1, 3) := by decide +kernel
theorem bX4_init_7 : decode mX4_init.2.1 7 = .ok (.newarray .int, 2) := by decide +kernel
theorem bX4_init_15 : decode mX4_init.2.1 15 = .ok (.newarray .int, 2) := by decide +kernel
theorem bX4_init_24 : decode mX4_init.2.1 24 = .ok (.newarray .int, 2) := by decide +kernel
theorem bX4_init_33 : decode mX4_init.2.1 33 = .ok (.newarray .int, 2) := by decide +kernel
theorem bX4_init_41 : decode mX4_init.2.1 41 = .ok (.newarray .int, 2) := by decide +kernel
theorem bX4_init_49 : decode mX4_init.2.1 49 = .ok (.newarray .int, 2) := by decide +kernel
theorem bX4_init_56 : decode mX4_init.2.1 56 = .ok (.newarray .boolean, 2) := by decide +kernel
theorem bX4_init_63 : decode mX4_init.2.1 63 = .ok (.newarray .int, 2) := by decide +kernel
theorem bX4_init_70 : decode mX4_init.2.1 70 = .ok (.newarray .int, 2) := by decide +kernel
theorem bX4_init_77 : decode mX4_init.2.1 77 = .ok (.newarray .int, 2) := by decide +kernel
theorem bX4_init_86 : decode mX4_init.2.1 86 = .ok (.newarray .int, 2) := by decide +kernel
theorem bX4_init_95 : decode mX4_init.2.1 95 = .ok (.newarray .int, 2) := by decide +kernel
theorem bX4_init_104 : decode mX4_init.2.1 104 = .ok (.newarray .long, 2) := by decide +kernel
theorem bX4_init_112 : decode mX4_init.2.1 112 = .ok (.newarray .long, 2) := by decide +kernel
theorem bX4_init_120 : decode mX4_init.2.1 120 = .ok (.newarray .long, 2) := by decide +kernel
theorem bX4_init_128 : decode mX4_init.2.1 128 = .ok (.newarray .int, 2) := by decide +kernel
theorem bX4_init_136 : decode mX4_init.2.1 136 = .ok (.newarray .boolean, 2) := by decide +kernel
theorem bX4_init_144 : decode mX4_init.2.1 144 = .ok (.newarray .int, 2) := by decide +kernel
theorem bX4_init_152 : decode mX4_init.2.1 152 = .ok (.newarray .int, 2) := by decide +kernel
theorem bX4_init_160 : decode mX4_init.2.1 160 = .ok (.newarray .long, 2) := by decide +kernel
set_option maxRecDepth 20000 in
theorem K_X4_init : KC mX4_init 20 2100 4 f0X4 pX4 := by
  refine KC.mk (by decide +kernel) rfl (fun q => [some (.ref q)]) (fun q => rfl) (by decide) (fun Y q hM => ?_)
  refine c_al aX4_init_0 rfl ?_
  refine c_obj bX4_init_1 (dW_at 484 (by decide +kernel)) (by decide) (by decide) ?_
  refine c_al aX4_init_4 rfl ?_
  refine c_ki aX4_init_5 ?_
  refine c_newI bX4_init_7 (by decide) (by decide) (by decide) (fun q1 => ?_)
  refine c_putF (ty := .array (.int)) aX4_init_9 rfl rfl rfl (by decide +kernel) rfl rfl (Nat.le_of_ble_eq_true rfl) ?_
  show CG Y mX4_init 20 2100 12 [some (.ref q)] [] [(q, .inr (4, [.int 0, .ref q1, .null, .null, .null, .null, .null, .int 0, .int 0, .null, .null, .null, .null, .null, .null, .null, .null, .null, .int 0, .null, .null, .int 0, .null, .null, .null])), (q1, .inl (Y.2.1.2 0, 20, .inl (fun _ => 0)))] 1 20
  refine c_al aX4_init_12 rfl ?_
  refine c_ki aX4_init_13 ?_
  refine c_newI bX4_init_15 (by decide) (by decide) (by decide) (fun q2 => ?_)
  refine c_putF (ty := .array (.int)) aX4_init_17 rfl rfl rfl (by decide +kernel) rfl rfl (Nat.le_of_ble_eq_true rfl) ?_
  show CG Y mX4_init 20 2100 20 [some (.ref q)] [] [(q, .inr (4, [.int 0, .ref q1, .ref q2, .null, .null, .null, .null, .int 0, .int 0, .null, .null, .null, .null, .null, .null, .null, .null, .null, .int 0, .null, .null, .int 0, .null, .null, .null])), (q1, .inl (Y.2.1.2 0, 20, .inl (fun _ => 0))), (q2, .inl (Y.2.1.2 0, 20, .inl (fun _ => 0)))] 2 40
  refine c_al aX4_init_20 rfl ?_
  refine c_ki aX4_init_21 ?_
  refine c_newI bX4_init_24 (by decide) (by decide) (by decide) (fun q3 => ?_)
  refine c_putF (ty := .array (.int)) aX4_init_26 rfl rfl rfl (by decide +kernel) rfl rfl (Nat.le_of_ble_eq_true rfl) ?_
  show CG Y mX4_init 20 2100 29 [some (.ref q)] [] [(q, .inr (4, [.int 0, .ref q1, .ref q2, .ref q3, .null, .null, .null, .int 0, .int 0, .null, .null, .null, .null, .null, .null, .null, .null, .null, .int 0, .null, .null, .int 0, .null, .null, .null])), (q1, .inl (Y.2.1.2 0, 20, .inl (fun _ => 0))), (q2, .inl (Y.2.1.2 0, 20, .inl (fun _ => 0))), (q3, .inl (Y.2.1.2 0, 400, .inl (fun _ => 0)))] 3 440
  refine c_al aX4_init_29 rfl ?_
  refine c_ki aX4_init_30 ?_
  refine c_newI bX4_init_33 (by decide) (by decide) (by decide) (fun q4 => ?_)
  refine c_putF (ty := .array (.int)) aX4_init_35 rfl rfl rfl (by decide +kernel) rfl rfl (Nat.le_of_ble_eq_true rfl) ?_
  show CG Y mX4_init 20 2100 38 [some (.ref q)] [] [(q, .inr (4, [.int 0, .ref q1, .ref q2, .ref q3, .ref q4, .null, .null, .int 0, .int 0, .null, .null, .null, .null, .null, .null, .null, .null, .null, .int 0, .null, .null, .int 0, .null, .null, .null])), (q1, .inl (Y.2.1.2 0, 20, .inl (fun _ => 0))), (q2, .inl (Y.2.1.2 0, 20, .inl (fun _ => 0))), (q3, .inl (Y.2.1.2 0, 400, .inl (fun _ => 0))), (q4, .inl (Y.2.1.2 0, 400, .inl (fun _ => 0)))] 4 840
  refine c_al aX4_init_38 rfl ?_
  refine c_ki aX4_init_39 ?_
  refine c_newI bX4_init_41 (by decide) (by decide) (by decide) (fun q5 => ?_)
  refine c_putF (ty := .array (.int)) aX4_init_43 rfl rfl rfl (by decide +kernel) rfl rfl (Nat.le_of_ble_eq_true rfl) ?_
  show CG Y mX4_init 20 2100 46 [some (.ref q)] [] [(q, .inr (4, [.int 0, .ref q1, .ref q2, .ref q3, .ref q4, .ref q5, .null, .int 0, .int 0, .null, .null, .null, .null, .null, .null, .null, .null, .null, .int 0, .null, .null, .int 0, .null, .null, .null])), (q1, .inl (Y.2.1.2 0, 20, .inl (fun _ => 0))), (q2, .inl (Y.2.1.2 0, 20, .inl (fun _ => 0))), (q3, .inl (Y.2.1.2 0, 400, .inl (fun _ => 0))), (q4, .inl (Y.2.1.2 0, 400, .inl (fun _ => 0))), (q5, .inl (Y.2.1.2 0, 20, .inl (fun _ => 0)))] 5 860
  refine c_al aX4_init_46 rfl ?_
  refine c_ki aX4_init_47 ?_
  refine c_newI bX4_init_49 (by decide) (by decide) (by decide) (fun q6 => ?_)
  refine c_putF (ty := .array (.int)) aX4_init_51 rfl rfl rfl (by decide +kernel) rfl rfl (Nat.le_of_ble_eq_true rfl) ?_
  show CG Y mX4_init 20 2100 54 [some (.ref q)] [] [(q, .inr (4, [.int 0, .ref q1, .ref q2, .ref q3, .ref q4, .ref q5, .ref q6, .int 0, .int 0, .null, .null, .null, .null, .null, .null, .null, .null, .null, .int 0, .null, .null, .int 0, .null, .null, .null])), (q1, .inl (Y.2.1.2 0, 20, .inl (fun _ => 0))), (q2, .inl (Y.2.1.2 0, 20, .inl (fun _ => 0))), (q3, .inl (Y.2.1.2 0, 400, .inl (fun _ => 0))), (q4, .inl (Y.2.1.2 0, 400, .inl (fun _ => 0))), (q5, .inl (Y.2.1.2 0, 20, .inl (fun _ => 0))), (q6, .inl (Y.2.1.2 0, 20, .inl (fun _ => 0)))] 6 880
  refine c_al aX4_init_54 rfl ?_
  refine c_ki aX4_init_55 ?_
  refine c_newZ bX4_init_56 (by decide) (by decide) (by decide) (fun q7 => ?_)
  refine c_putF (ty := .array (.boolean)) aX4_init_58 rfl rfl rfl (by decide +kernel) rfl rfl (Nat.le_of_ble_eq_true rfl) ?_
  show CG Y mX4_init 20 2100 61 [some (.ref q)] [] [(q, .inr (4, [.int 0, .ref q1, .ref q2, .ref q3, .ref q4, .ref q5, .ref q6, .int 0, .int 0, .ref q7, .null, .null, .null, .null, .null, .null, .null, .null, .int 0, .null, .null, .int 0, .null, .null, .null])), (q1, .inl (Y.2.1.2 0, 20, .inl (fun _ => 0))), (q2, .inl (Y.2.1.2 0, 20, .inl (fun _ => 0))), (q3, .inl (Y.2.1.2 0, 400, .inl (fun _ => 0))), (q4, .inl (Y.2.1.2 0, 400, .inl (fun _ => 0))), (q5, .inl (Y.2.1.2 0, 20, .inl (fun _ => 0))), (q6, .inl (Y.2.1.2 0, 20, .inl (fun _ => 0))), (q7, .inl (Y.2.1.2 2, 5, .inl (fun _ => 0)))] 7 885
  refine c_al aX4_init_61 rfl ?_
  refine c_ki aX4_init_62 ?_
  refine c_newI bX4_init_63 (by decide) (by decide) (by decide) (fun q8 => ?_)
  refine c_putF (ty := .array (.int)) aX4_init_65 rfl rfl rfl (by decide +kernel) rfl rfl (Nat.le_of_ble_eq_true rfl) ?_
  show CG Y mX4_init 20 2100 68 [some (.ref q)] [] [(q, .inr (4, [.int 0, .ref q1, .ref q2, .ref q3, .ref q4, .ref q5, .ref q6, .int 0, .int 0, .ref q7, .ref q8, .null, .null, .null, .null, .null, .null, .null, .int 0, .null, .null, .int 0, .null, .null, .null])), (q1, .inl (Y.2.1.2 0, 20, .inl (fun _ => 0))), (q2, .inl (Y.2.1.2 0, 20, .inl (fun _ => 0))), (q3, .inl (Y.2.1.2 0, 400, .inl (fun _ => 0))), (q4, .inl (Y.2.1.2 0, 400, .inl (fun _ => 0))), (q5, .inl (Y.2.1.2 0, 20, .inl (fun _ => 0))), (q6, .inl (Y.2.1.2 0, 20, .inl (fun _ => 0))), (q7, .inl (Y.2.1.2 2, 5, .inl (fun _ => 0))), (q8, .inl (Y.2.1.2 0, 5, .inl (fun _ => 0)))] 8 890
  refine c_al aX4_init_68 rfl ?_
  refine c_ki aX4_init_69 ?_
  refine c_newI bX4_init_70 (by decide) (by decide) (by decide) (fun q9 => ?_)
  refine c_putF (ty := .array (.int)) aX4_init_72 rfl rfl rfl (by decide +kernel) rfl rfl (Nat.le_of_ble_eq_true rfl) ?_
  show CG Y mX4_init 20 2100 75 [some (.ref q)] [] [(q, .inr (4, [.int 0, .ref q1, .ref q2, .ref q3, .ref q4, .ref q5, .ref q6, .int 0, .int 0, .ref q7, .ref q8, .ref q9, .null, .null, .null, .null, .null, .null, .int 0, .null, .null, .int 0, .null, .null, .null])), (q1, .inl (Y.2.1.2 0, 20, .inl (fun _ => 0))), (q2, .inl (Y.2.1.2 0, 20, .inl (fun _ => 0))), (q3, .inl (Y.2.1.2 0, 400, .inl (fun _ => 0))), (q4, .inl (Y.2.1.2 0, 400, .inl (fun _ => 0))), (q5, .inl (Y.2.1.2 0, 20, .inl (fun _ => 0))), (q6, .inl (Y.2.1.2 0, 20, .inl (fun _ => 0))), (q7, .inl (Y.2.1.2 2, 5, .inl (fun _ => 0))), (q8, .inl (Y.2.1.2 0, 5, .inl (fun _ => 0))), (q9, .inl (Y.2.1.2 0, 5, .inl (fun _ => 0)))] 9 895
  refine c_al aX4_init_75 rfl ?_
  refine c_ki aX4_init_76 ?_
  refine c_newI bX4_init_77 (by decide) (by decide) (by decide) (fun q10 => ?_)
  refine c_putF (ty := .array (.int)) aX4_init_79 rfl rfl rfl (by decide +kernel) rfl rfl (Nat.le_of_ble_eq_true rfl) ?_
  show CG Y mX4_init 20 2100 82 [some (.ref q)] [] [(q, .inr (4, [.int 0, .ref q1, .ref q2, .ref q3, .ref q4, .ref q5, .ref q6, .int 0, .int 0, .ref q7, .ref q8, .ref q9, .ref q10, .null, .null, .null, .null, .null, .int 0, .null, .null, .int 0, .null, .null, .null])), (q1, .inl (Y.2.1.2 0, 20, .inl (fun _ => 0))), (q2, .inl (Y.2.1.2 0, 20, .inl (fun _ => 0))), (q3, .inl (Y.2.1.2 0, 400, .inl (fun _ => 0))), (q4, .inl (Y.2.1.2 0, 400, .inl (fun _ => 0))), (q5, .inl (Y.2.1.2 0, 20, .inl (fun _ => 0))), (q6, .inl (Y.2.1.2 0, 20, .inl (fun _ => 0))), (q7, .inl (Y.2.1.2 2, 5, .inl (fun _ => 0))), (q8, .inl (Y.2.1.2 0, 5, .inl (fun _ => 0))), (q9, .inl (Y.2.1.2 0, 5, .inl (fun _ => 0))), (q10, .inl (Y.2.1.2 0, 5, .inl (fun _ => 0)))] 10 900
  refine c_al aX4_init_82 rfl ?_
  refine c_ki aX4_init_83 ?_
  refine c_newI bX4_init_86 (by decide) (by decide) (by decide) (fun q11 => ?_)
  refine c_putF (ty := .array (.int)) aX4_init_88 rfl rfl rfl (by decide +kernel) rfl rfl (Nat.le_of_ble_eq_true rfl) ?_
  show CG Y mX4_init 20 2100 91 [some (.ref q)] [] [(q, .inr (4, [.int 0, .ref q1, .ref q2, .ref q3, .ref q4, .ref q5, .ref q6, .int 0, .int 0, .ref q7, .ref q8, .ref q9, .ref q10, .ref q11, .null, .null, .null, .null, .int 0, .null, .null, .int 0, .null, .null, .null])), (q1, .inl (Y.2.1.2 0, 20, .inl (fun _ => 0))), (q2, .inl (Y.2.1.2 0, 20, .inl (fun _ => 0))), (q3, .inl (Y.2.1.2 0, 400, .inl (fun _ => 0))), (q4, .inl (Y.2.1.2 0, 400, .inl (fun _ => 0))), (q5, .inl (Y.2.1.2 0, 20, .inl (fun _ => 0))), (q6, .inl (Y.2.1.2 0, 20, .inl (fun _ => 0))), (q7, .inl (Y.2.1.2 2, 5, .inl (fun _ => 0))), (q8, .inl (Y.2.1.2 0, 5, .inl (fun _ => 0))), (q9, .inl (Y.2.1.2 0, 5, .inl (fun _ => 0))), (q10, .inl (Y.2.1.2 0, 5, .inl (fun _ => 0))), (q11, .inl (Y.2.1.2 0, 300, .inl (fun _ => 0)))] 11 1200
  refine c_al aX4_init_91 rfl ?_
  refine c_ki aX4_init_92 ?_
  refine c_newI bX4_init_95 (by decide) (by decide) (by decide) (fun q12 => ?_)
  refine c_putF (ty := .array (.int)) aX4_init_97 rfl rfl rfl (by decide +kernel) rfl rfl (Nat.le_of_ble_eq_true rfl) ?_
  show CG Y mX4_init 20 2100 100 [some (.ref q)] [] [(q, .inr (4, [.int 0, .ref q1, .ref q2, .ref q3, .ref q4, .ref q5, .ref q6, .int 0, .int 0, .ref q7, .ref q8, .ref q9, .ref q10, .ref q11, .ref q12, .null, .null, .null, .int 0, .null, .null, .int 0, .null, .null, .null])), (q1, .inl (Y.2.1.2 0, 20, .inl (fun _ => 0))), (q2, .inl (Y.2.1.2 0, 20, .inl (fun _ => 0))), (q3, .inl (Y.2.1.2 0, 400, .inl (fun _ => 0))), (q4, .inl (Y.2.1.2 0, 400, .inl (fun _ => 0))), (q5, .inl (Y.2.1.2 0, 20, .inl (fun _ => 0))), (q6, .inl (Y.2.1.2 0, 20, .inl (fun _ => 0))), (q7, .inl (Y.2.1.2 2, 5, .inl (fun _ => 0))), (q8, .inl (Y.2.1.2 0, 5, .inl (fun _ => 0))), (q9, .inl (Y.2.1.2 0, 5, .inl (fun _ => 0))), (q10, .inl (Y.2.1.2 0, 5, .inl (fun _ => 0))), (q11, .inl (Y.2.1.2 0, 300, .inl (fun _ => 0))), (q12, .inl (Y.2.1.2 0, 300, .inl (fun _ => 0)))] 12 1500
  refine c_al aX4_init_100 rfl ?_
  refine c_ki aX4_init_101 ?_
  refine c_newJ bX4_init_104 (by decide) (by decide) (by decide) (fun q13 => ?_)
  refine c_putF (ty := .array (.long)) aX4_init_106 rfl rfl rfl (by decide +kernel) rfl rfl (Nat.le_of_ble_eq_true rfl) ?_
  show CG Y mX4_init 20 2100 109 [some (.ref q)] [] [(q, .inr (4, [.int 0, .ref q1, .ref q2, .ref q3, .ref q4, .ref q5, .ref q6, .int 0, .int 0, .ref q7, .ref q8, .ref q9, .ref q10, .ref q11, .ref q12, .ref q13, .null, .null, .int 0, .null, .null, .int 0, .null, .null, .null])), (q1, .inl (Y.2.1.2 0, 20, .inl (fun _ => 0))), (q2, .inl (Y.2.1.2 0, 20, .inl (fun _ => 0))), (q3, .inl (Y.2.1.2 0, 400, .inl (fun _ => 0))), (q4, .inl (Y.2.1.2 0, 400, .inl (fun _ => 0))), (q5, .inl (Y.2.1.2 0, 20, .inl (fun _ => 0))), (q6, .inl (Y.2.1.2 0, 20, .inl (fun _ => 0))), (q7, .inl (Y.2.1.2 2, 5, .inl (fun _ => 0))), (q8, .inl (Y.2.1.2 0, 5, .inl (fun _ => 0))), (q9, .inl (Y.2.1.2 0, 5, .inl (fun _ => 0))), (q10, .inl (Y.2.1.2 0, 5, .inl (fun _ => 0))), (q11, .inl (Y.2.1.2 0, 300, .inl (fun _ => 0))), (q12, .inl (Y.2.1.2 0, 300, .inl (fun _ => 0))), (q13, .inl (Y.2.1.2 1, 300, .inr (.inl (fun _ => 0))))] 13 1800
  refine c_al aX4_init_109 rfl ?_
  refine c_ki aX4_init_110 ?_
  refine c_newJ bX4_init_112 (by decide) (by decide) (by decide) (fun q14 => ?_)
  refine c_putF (ty := .array (.long)) aX4_init_114 rfl rfl rfl (by decide +kernel) rfl rfl (Nat.le_of_ble_eq_true rfl) ?_
  show CG Y mX4_init 20 2100 117 [some (.ref q)] [] [(q, .inr (4, [.int 0, .ref q1, .ref q2, .ref q3, .ref q4, .ref q5, .ref q6, .int 0, .int 0, .ref q7, .ref q8, .ref q9, .ref q10, .ref q11, .ref q12, .ref q13, .ref q14, .null, .int 0, .null, .null, .int 0, .null, .null, .null])), (q1, .inl (Y.2.1.2 0, 20, .inl (fun _ => 0))), (q2, .inl (Y.2.1.2 0, 20, .inl (fun _ => 0))), (q3, .inl (Y.2.1.2 0, 400, .inl (fun _ => 0))), (q4, .inl (Y.2.1.2 0, 400, .inl (fun _ => 0))), (q5, .inl (Y.2.1.2 0, 20, .inl (fun _ => 0))), (q6, .inl (Y.2.1.2 0, 20, .inl (fun _ => 0))), (q7, .inl (Y.2.1.2 2, 5, .inl (fun _ => 0))), (q8, .inl (Y.2.1.2 0, 5, .inl (fun _ => 0))), (q9, .inl (Y.2.1.2 0, 5, .inl (fun _ => 0))), (q10, .inl (Y.2.1.2 0, 5, .inl (fun _ => 0))), (q11, .inl (Y.2.1.2 0, 300, .inl (fun _ => 0))), (q12, .inl (Y.2.1.2 0, 300, .inl (fun _ => 0))), (q13, .inl (Y.2.1.2 1, 300, .inr (.inl (fun _ => 0)))), (q14, .inl (Y.2.1.2 1, 40, .inr (.inl (fun _ => 0))))] 14 1840
  refine c_al aX4_init_117 rfl ?_
  refine c_ki aX4_init_118 ?_
  refine c_newJ bX4_init_120 (by decide) (by decide) (by decide) (fun q15 => ?_)
  refine c_putF (ty := .array (.long)) aX4_init_122 rfl rfl rfl (by decide +kernel) rfl rfl (Nat.le_of_ble_eq_true rfl) ?_
  show CG Y mX4_init 20 2100 125 [some (.ref q)] [] [(q, .inr (4, [.int 0, .ref q1, .ref q2, .ref q3, .ref q4, .ref q5, .ref q6, .int 0, .int 0, .ref q7, .ref q8, .ref q9, .ref q10, .ref q11, .ref q12, .ref q13, .ref q14, .ref q15, .int 0, .null, .null, .int 0, .null, .null, .null])), (q1, .inl (Y.2.1.2 0, 20, .inl (fun _ => 0))), (q2, .inl (Y.2.1.2 0, 20, .inl (fun _ => 0))), (q3, .inl (Y.2.1.2 0, 400, .inl (fun _ => 0))), (q4, .inl (Y.2.1.2 0, 400, .inl (fun _ => 0))), (q5, .inl (Y.2.1.2 0, 20, .inl (fun _ => 0))), (q6, .inl (Y.2.1.2 0, 20, .inl (fun _ => 0))), (q7, .inl (Y.2.1.2 2, 5, .inl (fun _ => 0))), (q8, .inl (Y.2.1.2 0, 5, .inl (fun _ => 0))), (q9, .inl (Y.2.1.2 0, 5, .inl (fun _ => 0))), (q10, .inl (Y.2.1.2 0, 5, .inl (fun _ => 0))), (q11, .inl (Y.2.1.2 0, 300, .inl (fun _ => 0))), (q12, .inl (Y.2.1.2 0, 300, .inl (fun _ => 0))), (q13, .inl (Y.2.1.2 1, 300, .inr (.inl (fun _ => 0)))), (q14, .inl (Y.2.1.2 1, 40, .inr (.inl (fun _ => 0)))), (q15, .inl (Y.2.1.2 1, 100, .inr (.inl (fun _ => 0))))] 15 1940
  refine c_al aX4_init_125 rfl ?_
  refine c_ki aX4_init_126 ?_
  refine c_newI bX4_init_128 (by decide) (by decide) (by decide) (fun q16 => ?_)
  refine c_putF (ty := .array (.int)) aX4_init_130 rfl rfl rfl (by decide +kernel) rfl rfl (Nat.le_of_ble_eq_true rfl) ?_
  show CG Y mX4_init 20 2100 133 [some (.ref q)] [] [(q, .inr (4, [.int 0, .ref q1, .ref q2, .ref q3, .ref q4, .ref q5, .ref q6, .int 0, .int 0, .ref q7, .ref q8, .ref q9, .ref q10, .ref q11, .ref q12, .ref q13, .ref q14, .ref q15, .int 0, .ref q16, .null, .int 0, .null, .null, .null])), (q1, .inl (Y.2.1.2 0, 20, .inl (fun _ => 0))), (q2, .inl (Y.2.1.2 0, 20, .inl (fun _ => 0))), (q3, .inl (Y.2.1.2 0, 400, .inl (fun _ => 0))), (q4, .inl (Y.2.1.2 0, 400, .inl (fun _ => 0))), (q5, .inl (Y.2.1.2 0, 20, .inl (fun _ => 0))), (q6, .inl (Y.2.1.2 0, 20, .inl (fun _ => 0))), (q7, .inl (Y.2.1.2 2, 5, .inl (fun _ => 0))), (q8, .inl (Y.2.1.2 0, 5, .inl (fun _ => 0))), (q9, .inl (Y.2.1.2 0, 5, .inl (fun _ => 0))), (q10, .inl (Y.2.1.2 0, 5, .inl (fun _ => 0))), (q11, .inl (Y.2.1.2 0, 300, .inl (fun _ => 0))), (q12, .inl (Y.2.1.2 0, 300, .inl (fun _ => 0))), (q13, .inl (Y.2.1.2 1, 300, .inr (.inl (fun _ => 0)))), (q14, .inl (Y.2.1.2 1, 40, .inr (.inl (fun _ => 0)))), (q15, .inl (Y.2.1.2 1, 100, .inr (.inl (fun _ => 0)))), (q16, .inl (Y.2.1.2 0, 20, .inl (fun _ => 0)))] 16 1960
  refine c_al aX4_init_133 rfl ?_
  refine c_ki aX4_init_134 ?_
  refine c_newZ bX4_init_136 (by decide) (by decide) (by decide) (fun q17 => ?_)
  refine c_putF (ty := .array (.boolean)) aX4_init_138 rfl rfl rfl (by decide +kernel) rfl rfl (Nat.le_of_ble_eq_true rfl) ?_
  show CG Y mX4_init 20 2100 141 [some (.ref q)] [] [(q, .inr (4, [.int 0, .ref q1, .ref q2, .ref q3, .ref q4, .ref q5, .ref q6, .int 0, .int 0, .ref q7, .ref q8, .ref q9, .ref q10, .ref q11, .ref q12, .ref q13, .ref q14, .ref q15, .int 0, .ref q16, .ref q17, .int 0, .null, .null, .null])), (q1, .inl (Y.2.1.2 0, 20, .inl (fun _ => 0))), (q2, .inl (Y.2.1.2 0, 20, .inl (fun _ => 0))), (q3, .inl (Y.2.1.2 0, 400, .inl (fun _ => 0))), (q4, .inl (Y.2.1.2 0, 400, .inl (fun _ => 0))), (q5, .inl (Y.2.1.2 0, 20, .inl (fun _ => 0))), (q6, .inl (Y.2.1.2 0, 20, .inl (fun _ => 0))), (q7, .inl (Y.2.1.2 2, 5, .inl (fun _ => 0))), (q8, .inl (Y.2.1.2 0, 5, .inl (fun _ => 0))), (q9, .inl (Y.2.1.2 0, 5, .inl (fun _ => 0))), (q10, .inl (Y.2.1.2 0, 5, .inl (fun _ => 0))), (q11, .inl (Y.2.1.2 0, 300, .inl (fun _ => 0))), (q12, .inl (Y.2.1.2 0, 300, .inl (fun _ => 0))), (q13, .inl (Y.2.1.2 1, 300, .inr (.inl (fun _ => 0)))), (q14, .inl (Y.2.1.2 1, 40, .inr (.inl (fun _ => 0)))), (q15, .inl (Y.2.1.2 1, 100, .inr (.inl (fun _ => 0)))), (q16, .inl (Y.2.1.2 0, 20, .inl (fun _ => 0))), (q17, .inl (Y.2.1.2 2, 20, .inl (fun _ => 0)))] 17 1980
  refine c_al aX4_init_141 rfl ?_
  refine c_ki aX4_init_142 ?_
  refine c_newI bX4_init_144 (by decide) (by decide) (by decide) (fun q18 => ?_)
  refine c_putF (ty := .array (.int)) aX4_init_146 rfl rfl rfl (by decide +kernel) rfl rfl (Nat.le_of_ble_eq_true rfl) ?_
  show CG Y mX4_init 20 2100 149 [some (.ref q)] [] [(q, .inr (4, [.int 0, .ref q1, .ref q2, .ref q3, .ref q4, .ref q5, .ref q6, .int 0, .int 0, .ref q7, .ref q8, .ref q9, .ref q10, .ref q11, .ref q12, .ref q13, .ref q14, .ref q15, .int 0, .ref q16, .ref q17, .int 0, .ref q18, .null, .null])), (q1, .inl (Y.2.1.2 0, 20, .inl (fun _ => 0))), (q2, .inl (Y.2.1.2 0, 20, .inl (fun _ => 0))), (q3, .inl (Y.2.1.2 0, 400, .inl (fun _ => 0))), (q4, .inl (Y.2.1.2 0, 400, .inl (fun _ => 0))), (q5, .inl (Y.2.1.2 0, 20, .inl (fun _ => 0))), (q6, .inl (Y.2.1.2 0, 20, .inl (fun _ => 0))), (q7, .inl (Y.2.1.2 2, 5, .inl (fun _ => 0))), (q8, .inl (Y.2.1.2 0, 5, .inl (fun _ => 0))), (q9, .inl (Y.2.1.2 0, 5, .inl (fun _ => 0))), (q10, .inl (Y.2.1.2 0, 5, .inl (fun _ => 0))), (q11, .inl (Y.2.1.2 0, 300, .inl (fun _ => 0))), (q12, .inl (Y.2.1.2 0, 300, .inl (fun _ => 0))), (q13, .inl (Y.2.1.2 1, 300, .inr (.inl (fun _ => 0)))), (q14, .inl (Y.2.1.2 1, 40, .inr (.inl (fun _ => 0)))), (q15, .inl (Y.2.1.2 1, 100, .inr (.inl (fun _ => 0)))), (q16, .inl (Y.2.1.2 0, 20, .inl (fun _ => 0))), (q17, .inl (Y.2.1.2 2, 20, .inl (fun _ => 0))), (q18, .inl (Y.2.1.2 0, 40, .inl (fun _ => 0)))] 18 2020
  refine c_al aX4_init_149 rfl ?_
  refine c_ki aX4_init_150 ?_
  refine c_newI bX4_init_152 (by decide) (by decide) (by decide) (fun q19 => ?_)
  refine c_putF (ty := .array (.int)) aX4_init_154 rfl rfl rfl (by decide +kernel) rfl rfl (Nat.le_of_ble_eq_true rfl) ?_
  show CG Y mX4_init 20 2100 157 [some (.ref q)] [] [(q, .inr (4, [.int 0, .ref q1, .ref q2, .ref q3, .ref q4, .ref q5, .ref q6, .int 0, .int 0, .ref q7, .ref q8, .ref q9, .ref q10, .ref q11, .ref q12, .ref q13, .ref q14, .ref q15, .int 0, .ref q16, .ref q17, .int 0, .ref q18, .ref q19, .null])), (q1, .inl (Y.2.1.2 0, 20, .inl (fun _ => 0))), (q2, .inl (Y.2.1.2 0, 20, .inl (fun _ => 0))), (q3, .inl (Y.2.1.2 0, 400, .inl (fun _ => 0))), (q4, .inl (Y.2.1.2 0, 400, .inl (fun _ => 0))), (q5, .inl (Y.2.1.2 0, 20, .inl (fun _ => 0))), (q6, .inl (Y.2.1.2 0, 20, .inl (fun _ => 0))), (q7, .inl (Y.2.1.2 2, 5, .inl (fun _ => 0))), (q8, .inl (Y.2.1.2 0, 5, .inl (fun _ => 0))), (q9, .inl (Y.2.1.2 0, 5, .inl (fun _ => 0))), (q10, .inl (Y.2.1.2 0, 5, .inl (fun _ => 0))), (q11, .inl (Y.2.1.2 0, 300, .inl (fun _ => 0))), (q12, .inl (Y.2.1.2 0, 300, .inl (fun _ => 0))), (q13, .inl (Y.2.1.2 1, 300, .inr (.inl (fun _ => 0)))), (q14, .inl (Y.2.1.2 1, 40, .inr (.inl (fun _ => 0)))), (q15, .inl (Y.2.1.2 1, 100, .inr (.inl (fun _ => 0)))), (q16, .inl (Y.2.1.2 0, 20, .inl (fun _ => 0))), (q17, .inl (Y.2.1.2 2, 20, .inl (fun _ => 0))), (q18, .inl (Y.2.1.2 0, 40, .inl (fun _ => 0))), (q19, .inl (Y.2.1.2 0, 40, .inl (fun _ => 0)))] 19 2060
  refine c_al aX4_init_157 rfl ?_
  refine c_ki aX4_init_158 ?_
  refine c_newJ bX4_init_160 (by decide) (by decide) (by decide) (fun q20 => ?_)
  refine c_putF (ty := .array (.long)) aX4_init_162 rfl rfl rfl (by decide +kernel) rfl rfl (Nat.le_of_ble_eq_true rfl) ?_
  show CG Y mX4_init 20 2100 165 [some (.ref q)] [] [(q, .inr (4, [.int 0, .ref q1, .ref q2, .ref q3, .ref q4, .ref q5, .ref q6, .int 0, .int 0, .ref q7, .ref q8, .ref q9, .ref q10, .ref q11, .ref q12, .ref q13, .ref q14, .ref q15, .int 0, .ref q16, .ref q17, .int 0, .ref q18, .ref q19, .ref q20])), (q1, .inl (Y.2.1.2 0, 20, .inl (fun _ => 0))), (q2, .inl (Y.2.1.2 0, 20, .inl (fun _ => 0))), (q3, .inl (Y.2.1.2 0, 400, .inl (fun _ => 0))), (q4, .inl (Y.2.1.2 0, 400, .inl (fun _ => 0))), (q5, .inl (Y.2.1.2 0, 20, .inl (fun _ => 0))), (q6, .inl (Y.2.1.2 0, 20, .inl (fun _ => 0))), (q7, .inl (Y.2.1.2 2, 5, .inl (fun _ => 0))), (q8, .inl (Y.2.1.2 0, 5, .inl (fun _ => 0))), (q9, .inl (Y.2.1.2 0, 5, .inl (fun _ => 0))), (q10, .inl (Y.2.1.2 0, 5, .inl (fun _ => 0))), (q11, .inl (Y.2.1.2 0, 300, .inl (fun _ => 0))), (q12, .inl (Y.2.1.2 0, 300, .inl (fun _ => 0))), (q13, .inl (Y.2.1.2 1, 300, .inr (.inl (fun _ => 0)))), (q14, .inl (Y.2.1.2 1, 40, .inr (.inl (fun _ => 0)))), (q15, .inl (Y.2.1.2 1, 100, .inr (.inl (fun _ => 0)))), (q16, .inl (Y.2.1.2 0, 20, .inl (fun _ => 0))), (q17, .inl (Y.2.1.2 2, 20, .inl (fun _ => 0))), (q18, .inl (Y.2.1.2 0, 40, .inl (fun _ => 0))), (q19, .inl (Y.2.1.2 0, 40, .inl (fun _ => 0))), (q20, .inl (Y.2.1.2 1, 40, .inr (.inl (fun _ => 0))))] 20 2100
  refine c_vret aX4_init_165 rfl hM (fun C t hP hK hD hF => ⟨⟨_, rfl, ⟨fun k => match k with
    | 0 => q
    | 1 => q1
    | 2 => q2
    | 3 => q3
    | 4 => q4
    | 5 => q5
    | 6 => q6
    | 7 => q7
    | 8 => q8
    | 9 => q9
    | 10 => q10
    | 11 => q11
    | 12 => q12
    | 13 => q13
    | 14 => q14
    | 15 => q15
    | 16 => q16
    | 17 => q17
    | 18 => q18
    | 19 => q19
    | _ => q20
    , rfl, rfl⟩, hP, hK, hD⟩, hF⟩)
def wWlk (ca : Nat → ClassId) (a : Nat → Nat) (r1 : Nat → Nat) (r2 : Nat → Nat) : va_W := (((([(a 0, .inr (2, [.int 0, .ref (a 1), .ref (a 2), .ref (a 3), .ref (a 4), .ref (a 5), .ref (a 6), .ref (a 7), .ref (a 8), .ref (a 9)])), (a 1, .inl (ca 0, 20, .inl (fun _ => 0))), (a 2, .inl (ca 0, 20, .inl (fun _ => 0))), (a 3, .inl (ca 0, 20, .inl (fun _ => 0))), (a 4, .inl (ca 0, 20, .inl (fun _ => 0))), (a 5, .inl (ca 4, 20, .inr (.inr (.inr (.inr (fun i => if i < 20 then some (r1 i) else none))))))]) ++ ((List.range 20).map r1).map (fun a => (a, .inl (ca 0, 16, .inl (fun _ => 0))))) ++ [(a 6, .inl (ca 4, 20, .inr (.inr (.inr (.inr (fun i => if i < 20 then some (r2 i) else none))))))]) ++ ((List.range 20).map r2).map (fun a => (a, .inl (ca 0, 16, .inl (fun _ => 0))))) ++ [(a 7, .inl (ca 0, 20, .inl (fun _ => 0))), (a 8, .inl (ca 0, 20, .inl (fun _ => 0))), (a 9, .inl (ca 2, 20, .inl (fun _ => 0)))]
def pX2 : Nat → (Nat → ClassId) → va_W → Prop := fun q ca w => ∃ (a : Nat → Nat) (r1 : Nat → Nat) (r2 : Nat → Nat), a 0 = q ∧ w = wWlk ca a r1 r2
theorem bX2_init_1 : decode mX2_init.2.1 1 = .ok (.invokespecial 3, 3) := by decide +kernel
theorem bX2_init_7 : decode mX2_init.2.1 7 = .ok (.newarray .int, 2) := by decide +kernel
theorem bX2_init_15 : decode mX2_init.2.1 15 = .ok (.newarray .int, 2) := by decide +kernel
theorem bX2_init_23 : decode mX2_init.2.1 23 = .ok (.newarray .int, 2) := by decide +kernel
theorem bX2_init_31 : decode mX2_init.2.1 31 = .ok (.newarray .int, 2) := by decide +kernel
theorem bX2_init_41 : decode mX2_init.2.1 41 = .ok (.multianewarray 24 2, 4) := by decide +kernel
theorem bX2_init_53 : decode mX2_init.2.1 53 = .ok (.multianewarray 24 2, 4) := by decide +kernel
theorem bX2_init_63 : decode mX2_init.2.1 63 = .ok (.newarray .int, 2) := by decide +kernel
theorem bX2_init_71 : decode mX2_init.2.1 71 = .ok (.newarray .int, 2) := by decide +kernel
theorem bX2_init_79 : decode mX2_init.2.1 79 = .ok (.newarray .boolean, 2) := by decide +kernel
set_option maxRecDepth 20000 in
theorem K_X2_init : KC mX2_init 49 820 2 f0X2 pX2 := by
  refine KC.mk (by decide +kernel) rfl (fun q => [some (.ref q)]) (fun q => rfl) (by decide) (fun Y q hM => ?_)
  refine c_al aX2_init_0 rfl ?_
  refine c_obj bX2_init_1 (dW_at 48 (by decide +kernel)) (by decide) (by decide) ?_
  refine c_al aX2_init_4 rfl ?_
  refine c_ki aX2_init_5 ?_
  refine c_newI bX2_init_7 (by decide) (by decide) (by decide) (fun q1 => ?_)
  refine c_putF (ty := .array (.int)) aX2_init_9 rfl rfl rfl (by decide +kernel) rfl rfl (Nat.le_of_ble_eq_true rfl) ?_
  refine c_al aX2_init_12 rfl ?_
  refine c_ki aX2_init_13 ?_
  refine c_newI bX2_init_15 (by decide) (by decide) (by decide) (fun q2 => ?_)
  refine c_putF (ty := .array (.int)) aX2_init_17 rfl rfl rfl (by decide +kernel) rfl rfl (Nat.le_of_ble_eq_true rfl) ?_
  refine c_al aX2_init_20 rfl ?_
  refine c_ki aX2_init_21 ?_
  refine c_newI bX2_init_23 (by decide) (by decide) (by decide) (fun q3 => ?_)
  refine c_putF (ty := .array (.int)) aX2_init_25 rfl rfl rfl (by decide +kernel) rfl rfl (Nat.le_of_ble_eq_true rfl) ?_
  refine c_al aX2_init_28 rfl ?_
  refine c_ki aX2_init_29 ?_
  refine c_newI bX2_init_31 (by decide) (by decide) (by decide) (fun q4 => ?_)
  refine c_putF (ty := .array (.int)) aX2_init_33 rfl rfl rfl (by decide +kernel) rfl rfl (Nat.le_of_ble_eq_true rfl) ?_
  refine c_al aX2_init_36 rfl ?_
  refine c_ki aX2_init_37 ?_
  refine c_ki aX2_init_39 ?_
  refine c_mna bX2_init_41 (dW_at 49 (by decide +kernel)) (by decide) (by decide) (fun q5 r1 => ?_)
  refine c_putF (ty := .array (.array (.int))) aX2_init_45 rfl rfl rfl (by decide +kernel) rfl rfl (Nat.le_of_ble_eq_true rfl) ?_
  refine c_al aX2_init_48 rfl ?_
  refine c_ki aX2_init_49 ?_
  refine c_ki aX2_init_51 ?_
  refine c_mna bX2_init_53 (dW_at 49 (by decide +kernel)) (by decide) (by decide) (fun q6 r2 => ?_)
  refine c_putF (ty := .array (.array (.int))) aX2_init_57 rfl rfl rfl (by decide +kernel) rfl rfl (Nat.le_of_ble_eq_true rfl) ?_
  refine c_al aX2_init_60 rfl ?_
  refine c_ki aX2_init_61 ?_
  refine c_newI bX2_init_63 (by decide) (by decide) (by decide) (fun q7 => ?_)
  refine c_putF (ty := .array (.int)) aX2_init_65 rfl rfl rfl (by decide +kernel) rfl rfl (Nat.le_of_ble_eq_true rfl) ?_
  refine c_al aX2_init_68 rfl ?_
  refine c_ki aX2_init_69 ?_
  refine c_newI bX2_init_71 (by decide) (by decide) (by decide) (fun q8 => ?_)
  refine c_putF (ty := .array (.int)) aX2_init_73 rfl rfl rfl (by decide +kernel) rfl rfl (Nat.le_of_ble_eq_true rfl) ?_
  refine c_al aX2_init_76 rfl ?_
  refine c_ki aX2_init_77 ?_
  refine c_newZ bX2_init_79 (by decide) (by decide) (by decide) (fun q9 => ?_)
  refine c_putF (ty := .array (.boolean)) aX2_init_81 rfl rfl rfl (by decide +kernel) rfl rfl (Nat.le_of_ble_eq_true rfl) ?_
  refine c_vret aX2_init_84 rfl hM (fun C t hP hK hD hF => ⟨⟨_, rfl, ⟨fun k => match k with
    | 0 => q
    | 1 => q1
    | 2 => q2
    | 3 => q3
    | 4 => q4
    | 5 => q5
    | 6 => q6
    | 7 => q7
    | 8 => q8
    | _ => q9
    , r1, r2, rfl, rfl⟩, hP, hK, hD⟩, hF⟩)

theorem set_mid {R Z : va_W} {k k' x : Nat × va_E} {n : Nat} (h : R.length = n) : (x :: ((R ++ [k]) ++ Z)).set (n + 1) k' = x :: ((R ++ [k']) ++ Z) := by
  subst h
  rw [List.set_cons_succ, List.append_assoc, List.set_append_right _ _ (Nat.le_refl _), Nat.sub_self, List.append_assoc]
  rfl
theorem get_mid {R Z : va_W} {k x : Nat × va_E} {n : Nat} (h : R.length = n) : (x :: ((R ++ [k]) ++ Z))[n + 1]? = some k := by
  subst h
  rw [List.getElem?_cons_succ, List.append_assoc, List.getElem?_append_right (Nat.le_refl _), Nat.sub_self]
  rfl
theorem get_new {R Z vs : va_W} {k x v : Nat × va_E} {n : Nat} (h : R.length = n) : (x :: ((R ++ [k]) ++ (Z ++ (v :: vs))))[n + 2 + Z.length]? = some v := by
  subst h
  rw [show R.length + 2 + Z.length = ((R ++ [k]).length + Z.length) + 1 by rw [List.length_append, List.length_singleton]; omega, List.getElem?_cons_succ, List.getElem?_append_right (by omega), Nat.add_sub_cancel_left, List.getElem?_append_right (Nat.le_refl _), Nat.sub_self]
  rfl
theorem bX3_init_1 : decode mX3_init.2.1 1 = .ok (.invokespecial 3, 3) := by decide +kernel
theorem bX3_init_5 : decode mX3_init.2.1 5 = .ok (.new 9, 3) := by decide +kernel
theorem bX3_init_9 : decode mX3_init.2.1 9 = .ok (.invokespecial 11, 3) := by decide +kernel
theorem bX3_init_16 : decode mX3_init.2.1 16 = .ok (.new 16, 3) := by decide +kernel
theorem bX3_init_20 : decode mX3_init.2.1 20 = .ok (.invokespecial 18, 3) := by decide +kernel
theorem bX3_init_27 : decode mX3_init.2.1 27 = .ok (.new 23, 3) := by decide +kernel
theorem bX3_init_31 : decode mX3_init.2.1 31 = .ok (.invokespecial 25, 3) := by decide +kernel
theorem bX3_init_38 : decode mX3_init.2.1 38 = .ok (.new 23, 3) := by decide +kernel
theorem bX3_init_42 : decode mX3_init.2.1 42 = .ok (.invokespecial 25, 3) := by decide +kernel
theorem bX3_init_50 : decode mX3_init.2.1 50 = .ok (.anewarray 23, 3) := by decide +kernel
theorem bX3_init_68 : decode mX3_init.2.1 68 = .ok (.new 23, 3) := by decide +kernel
theorem bX3_init_72 : decode mX3_init.2.1 72 = .ok (.invokespecial 25, 3) := by decide +kernel
theorem bX3_init_75 : dk mX3_init 75 .aastore 1 76 := ⟨by decide +kernel, rfl⟩
theorem in_new : dW (.classLink RX3 9 RX2) ∧ dW (.instantiable RX2 10) ∧ dW (.initialized RX2) ∧ dW (.classLink RX3 16 RX1) ∧ dW (.instantiable RX1 7) ∧ dW (.initialized RX1) ∧ dW (.classLink RX3 23 RX0) ∧ dW (.instantiable RX0 9) ∧ dW (.initialized RX0) := ⟨dW_at 43 (by decide +kernel), dW_at 44 (by decide +kernel), dW_at 28 (by decide +kernel), dW_at 93 (by decide +kernel), dW_at 94 (by decide +kernel), dW_at 29 (by decide +kernel), dW_at 127 (by decide +kernel), dW_at 128 (by decide +kernel), dW_at 30 (by decide +kernel)⟩
theorem fd0 : ∀ j, j < 9 → defaultValue (tyX0 j) = vp_V f0X0 j := fun j hj => by
  rcases (by omega : j = 0 ∨ j = 1 ∨ j = 2 ∨ j = 3 ∨ j = 4 ∨ j = 5 ∨ j = 6 ∨ j = 7 ∨ j = 8) with rfl | rfl | rfl | rfl | rfl | rfl | rfl | rfl | rfl <;> rfl
theorem fd1 : ∀ j, j < 7 → defaultValue (tyX1 j) = vp_V f0X1 j := fun j hj => by
  rcases (by omega : j = 0 ∨ j = 1 ∨ j = 2 ∨ j = 3 ∨ j = 4 ∨ j = 5 ∨ j = 6) with rfl | rfl | rfl | rfl | rfl | rfl | rfl <;> rfl
theorem fd2 : ∀ j, j < 10 → defaultValue (tyX2 j) = vp_V f0X2 j := fun j hj => by
  rcases (by omega : j = 0 ∨ j = 1 ∨ j = 2 ∨ j = 3 ∨ j = 4 ∨ j = 5 ∨ j = 6 ∨ j = 7 ∨ j = 8 ∨ j = 9) with rfl | rfl | rfl | rfl | rfl | rfl | rfl | rfl | rfl | rfl <;> rfl
theorem fd3 : ∀ j, j < 7 → defaultValue (tyX3 j) = vp_V f0X3 j := fun j hj => by
  rcases (by omega : j = 0 ∨ j = 1 ∨ j = 2 ∨ j = 3 ∨ j = 4 ∨ j = 5 ∨ j = 6) with rfl | rfl | rfl | rfl | rfl | rfl | rfl <;> rfl
theorem fd4 : ∀ j, j < 25 → defaultValue (tyX4 j) = vp_V f0X4 j := fun j hj => by
  rcases (by omega : j = 0 ∨ j = 1 ∨ j = 2 ∨ j = 3 ∨ j = 4 ∨ j = 5 ∨ j = 6 ∨ j = 7 ∨ j = 8 ∨ j = 9 ∨ j = 10 ∨ j = 11 ∨ j = 12 ∨ j = 13 ∨ j = 14 ∨ j = 15 ∨ j = 16 ∨ j = 17 ∨ j = 18 ∨ j = 19 ∨ j = 20 ∨ j = 21 ∨ j = 22 ∨ j = 23 ∨ j = 24) with rfl | rfl | rfl | rfl | rfl | rfl | rfl | rfl | rfl | rfl | rfl | rfl | rfl | rfl | rfl | rfl | rfl | rfl | rfl | rfl | rfl | rfl | rfl | rfl | rfl <;> rfl
/-- what lies ahead of the saves -/
def wR (ca : Nat → ClassId) (aW r1 r2 aS aN aT : Nat → Nat) : va_W := ((wWlk ca aW r1 r2 ++ wShr ca aS) ++ wLst ca aN) ++ wLst ca aT
theorem wR_len (ca : Nat → ClassId) (aW r1 r2 aS aN aT : Nat → Nat) : (wR ca aW r1 r2 aS aN aT).length = 68 := rfl
abbrev kep (ca : Nat → ClassId) (f : Nat → Option Nat) : va_E := .inl (ca 3, 3, .inr (.inr (.inr (.inr f))))
def wCls (ca : Nat → ClassId) (q : Nat) (aW r1 r2 aS aN aT : Nat → Nat) (kq : Nat) (a5 a6 a7 : Nat → Nat) : va_W := (q, .inr (3, [.ref (aW 0), .ref (aS 0), .ref (aN 0), .ref (aT 0), .ref kq, .int 0, .int 0])) :: ((wR ca aW r1 r2 aS aN aT ++ [(kq, kep ca (va_up (va_up (va_up (fun _ => none) 0 (some (a5 0))) 1 (some (a6 0))) 2 (some (a7 0))))]) ++ ((([] ++ wLst ca a5) ++ wLst ca a6) ++ wLst ca a7))
def pX3 : Nat → (Nat → ClassId) → va_W → Prop := fun q ca w => ∃ (aW r1 r2 aS aN aT : Nat → Nat) (kq : Nat) (a5 a6 a7 : Nat → Nat), w = wCls ca q aW r1 r2 aS aN aT kq a5 a6 a7
set_option maxRecDepth 20000 in
set_option maxHeartbeats 2000000 in
theorem K_X3_init : KC mX3_init 90 2121 3 f0X3 pX3 := by
  refine KC.mk (by decide +kernel) rfl (fun q => [some (.ref q), none]) (fun q => rfl) (by decide) (fun Y q hM => ?_)
  refine c_al aX3_init_0 rfl ?_
  refine c_obj bX3_init_1 (dW_at 40 (by decide +kernel)) (by decide) (by decide) ?_
  refine c_al aX3_init_4 rfl ?_
  refine c_new (ci := 2) (fs := f0X2) bX3_init_5 rfl in_new.1 in_new.2.1 in_new.2.2.1 tyX2 ty2 fd2 (by decide) (by decide) (fun w => ?_)
  refine c_dup aX3_init_8 rfl ?_
  refine c_callN bX3_init_9 okcX2 (fun z => z.2.2.1) ⟨by decide, by decide⟩ K_X2_init (by decide) (by decide) (fun w1 hw => ?_)
  obtain ⟨aW, r1, r2, rfl, rfl⟩ := hw
  refine c_putF (ty := .object RX2) aX3_init_12 rfl rfl rfl (by decide +kernel) rfl rfl (Nat.le_of_ble_eq_true rfl) ?_
  show CG Y mX3_init 90 2121 15 [some (.ref q), none] [] ((q, .inr (3, [.ref (aW 0), .null, .null, .null, .null, .int 0, .int 0])) :: wWlk Y.2.1.2 aW r1 r2) 50 830
  refine c_al aX3_init_15 rfl ?_
  refine c_new (ci := 1) (fs := f0X1) bX3_init_16 rfl in_new.2.2.2.1 in_new.2.2.2.2.1 in_new.2.2.2.2.2.1 tyX1 ty1 fd1 (by decide) (by decide) (fun w => ?_)
  refine c_dup aX3_init_19 rfl ?_
  refine c_callN bX3_init_20 okcX1 (fun z => z.2.2.2.1) ⟨by decide, by decide⟩ K_X1_init (by decide) (by decide) (fun w1 hw => ?_)
  obtain ⟨aS, rfl, rfl⟩ := hw
  rw [List.cons_append]
  refine c_putF (ty := .object RX1) aX3_init_23 rfl rfl rfl (by decide +kernel) rfl rfl (Nat.le_of_ble_eq_true rfl) ?_
  show CG Y mX3_init 90 2121 26 [some (.ref q), none] [] ((q, .inr (3, [.ref (aW 0), .ref (aS 0), .null, .null, .null, .int 0, .int 0])) :: (wWlk Y.2.1.2 aW r1 r2 ++ wShr Y.2.1.2 aS)) 54 933
  refine c_al aX3_init_26 rfl ?_
  refine c_new (ci := 0) (fs := f0X0) bX3_init_27 rfl in_new.2.2.2.2.2.2.1 in_new.2.2.2.2.2.2.2.1 in_new.2.2.2.2.2.2.2.2 tyX0 ty0 fd0 (by decide) (by decide) (fun w => ?_)
  refine c_dup aX3_init_30 rfl ?_
  refine c_callN bX3_init_31 okcX0 (fun z => z.2.2.2.2) ⟨by decide, by decide⟩ K_X0_init (by decide) (by decide) (fun w1 hw => ?_)
  obtain ⟨aN, rfl, rfl⟩ := hw
  rw [List.cons_append]
  refine c_putF (ty := .object RX0) aX3_init_34 rfl rfl rfl (by decide +kernel) rfl rfl (Nat.le_of_ble_eq_true rfl) ?_
  show CG Y mX3_init 90 2121 37 [some (.ref q), none] [] ((q, .inr (3, [.ref (aW 0), .ref (aS 0), .ref (aN 0), .null, .null, .int 0, .int 0])) :: ((wWlk Y.2.1.2 aW r1 r2 ++ wShr Y.2.1.2 aS) ++ wLst Y.2.1.2 aN)) 61 1170
  refine c_al aX3_init_37 rfl ?_
  refine c_new (ci := 0) (fs := f0X0) bX3_init_38 rfl in_new.2.2.2.2.2.2.1 in_new.2.2.2.2.2.2.2.1 in_new.2.2.2.2.2.2.2.2 tyX0 ty0 fd0 (by decide) (by decide) (fun w => ?_)
  refine c_dup aX3_init_41 rfl ?_
  refine c_callN bX3_init_42 okcX0 (fun z => z.2.2.2.2) ⟨by decide, by decide⟩ K_X0_init (by decide) (by decide) (fun w1 hw => ?_)
  obtain ⟨aT, rfl, rfl⟩ := hw
  rw [List.cons_append]
  refine c_putF (ty := .object RX0) aX3_init_45 rfl rfl rfl (by decide +kernel) rfl rfl (Nat.le_of_ble_eq_true rfl) ?_
  show CG Y mX3_init 90 2121 48 [some (.ref q), none] [] ((q, .inr (3, [.ref (aW 0), .ref (aS 0), .ref (aN 0), .ref (aT 0), .null, .int 0, .int 0])) :: wR Y.2.1.2 aW r1 r2 aS aN aT) 68 1407
  refine c_al aX3_init_48 rfl ?_
  refine c_ki aX3_init_49 ?_
  refine c_anew bX3_init_50 in_new.2.2.2.2.2.2.1 (by decide) (by decide) (by decide) (fun kq => ?_)
  rw [List.cons_append]
  refine c_putF (ty := .array (.object RX0)) aX3_init_53 rfl rfl rfl (by decide +kernel) rfl rfl (Nat.le_of_ble_eq_true rfl) ?_
  have hR := wR_len Y.2.1.2 aW r1 r2 aS aN aT
  generalize hRe : wR Y.2.1.2 aW r1 r2 aS aN aT = R at hR
  generalize hO : ((q, .inr (3, [.ref (aW 0), .ref (aS 0), .ref (aN 0), .ref (aT 0), .ref kq, .int 0, .int 0])) : Nat × va_E) = x
  have hx : ((q, .inr (3, [.ref (aW 0), .ref (aS 0), .ref (aN 0), .ref (aT 0), .null, .int 0, .int 0].set 4 (.ref kq))) : Nat × va_E) = x := hO
  have step : ∀ (i : Nat) (Z : va_W) (f : Nat → Option Nat) (cells slots : Nat), i < 3 → cells + 7 ≤ 90 → slots + 237 ≤ 2121 → (∀ a : Nat → Nat, CG Y mX3_init 90 2121 58 [some (.ref q), some (.int (nI (i + 1)))] [] (x :: ((R ++ [(kq, kep Y.2.1.2 (va_up f i (some (a 0))))]) ++ (Z ++ wLst Y.2.1.2 a))) (cells + 7) (slots + 237)) → CG Y mX3_init 90 2121 58 [some (.ref q), some (.int (nI i))] [] (x :: ((R ++ [(kq, kep Y.2.1.2 f)]) ++ Z)) cells slots := by
    intro i Z f cells slots hi hc hs kk
    refine c_il aX3_init_58 rfl ?_
    refine c_ki aX3_init_59 ?_
    refine c_n_ge aX3_init_60 (by omega) (by omega) (fun c60 => by omega) (fun c60 => ?_)
    refine c_al aX3_init_63 rfl ?_
    rw [← hO]
    refine c_get (r := kq) aX3_init_64 rfl ?_
    rw [hO]
    refine c_il aX3_init_67 rfl ?_
    refine c_new (ci := 0) (fs := f0X0) bX3_init_68 rfl in_new.2.2.2.2.2.2.1 in_new.2.2.2.2.2.2.2.1 in_new.2.2.2.2.2.2.2.2 tyX0 ty0 fd0 (by omega) (by omega) (fun w => ?_)
    refine c_dup aX3_init_71 rfl ?_
    refine c_callN bX3_init_72 okcX0 (fun z => z.2.2.2.2) ⟨by decide, by decide⟩ K_X0_init (by omega) (by omega) (fun w1 hw => ?_)
    obtain ⟨a, rfl, rfl⟩ := hw
    have e : (x :: ((R ++ [(kq, kep Y.2.1.2 f)]) ++ Z)) ++ wLst Y.2.1.2 a = x :: ((R ++ [(kq, kep Y.2.1.2 f)]) ++ (Z ++ wLst Y.2.1.2 a)) := by rw [List.cons_append, List.append_assoc (R ++ _) Z]
    rw [e]
    refine c_aast (q0 := 69) (qk := 68 + 2 + Z.length) bX3_init_75 (get_mid hR) (get_new hR) hi (by omega) ?_
    rw [set_mid hR]
    refine c_in1 aX3_init_76 rfl ?_
    refine c_go aX3_init_79 ?_
    exact kk a
  refine c_ki aX3_init_56 ?_
  refine c_is1 aX3_init_57 rfl ?_
  rw [hx]
  have e0 : x :: (R ++ [(kq, kep Y.2.1.2 (fun _ => none))]) = x :: ((R ++ [(kq, kep Y.2.1.2 (fun _ => none))]) ++ []) := by rw [List.append_nil]
  rw [e0]
  refine step 0 [] _ _ _ (by omega) (by decide) (by decide) (fun a5 => ?_)
  refine step 1 _ _ _ _ (by omega) (by decide) (by decide) (fun a6 => ?_)
  refine step 2 _ _ _ _ (by omega) (by decide) (by decide) (fun a7 => ?_)
  refine c_il aX3_init_58 rfl ?_
  refine c_ki aX3_init_59 ?_
  refine c_n_ge aX3_init_60 (by omega) (by omega) (fun c60 => ?_) (fun c60 => by omega)
  rw [← hO]
  refine c_al aX3_init_82 rfl ?_
  refine c_ki aX3_init_83 ?_
  refine c_putI (ty := .int) aX3_init_84 rfl (by decide +kernel) rfl rfl (Nat.le_of_ble_eq_true rfl) ?_
  refine c_al aX3_init_87 rfl ?_
  refine c_ki aX3_init_88 ?_
  refine c_putI (ty := .boolean) aX3_init_89 rfl (by decide +kernel) (by decide +kernel) rfl (Nat.le_of_ble_eq_true rfl) ?_
  refine c_vret aX3_init_92 rfl hM (fun C t hP hK hD hF => ⟨⟨_, rfl, ⟨aW, r1, r2, aS, aN, aT, kq, a5, a6, a7, ?_⟩, hP, hK, hD⟩, hF⟩)
  unfold wCls
  rw [hRe]
  rfl

theorem fs_le {f g : Nat → Nat} (h : ∀ i, f i ≤ g i) : ∀ n, fs f n ≤ fs g n
  | 0 => Nat.le_refl _
  | n + 1 => Nat.add_le_add (fs_le h n) (h n)
theorem fs_add (f g : Nat → Nat) : ∀ n, fs (fun i => f i + g i) n = fs f n + fs g n
  | 0 => rfl
  | n + 1 => by unfold fs; rw [fs_add f g n]; omega
theorem fs_one (t u : Nat) : ∀ n, fs (fun s => if t = s then u else 0) n ≤ u
  | 0 => Nat.zero_le _
  | n + 1 => by
    have := fs_one t u n
    unfold fs
    by_cases e : t = n
    · have h0 : ∀ m, m ≤ t → fs (fun s => if t = s then u else 0) m = 0 := by
        intro m
        induction m with
        | zero => intro _; rfl
        | succ m ih => intro hm; unfold fs; rw [ih (by omega), if_neg (by omega)]
      rw [h0 n (by omega), if_pos e]; omega
    · rw [if_neg e]; omega
theorem fs_op : ∀ (L : List Itm) (n : Nat), fs (opAt L) n ≤ uSum L
  | [], n => by
    have : ∀ n, fs (opAt []) n = 0 := by
      intro n
      induction n with
      | zero => rfl
      | succ n ih => unfold fs; rw [ih]; rfl
    rw [this]; exact Nat.zero_le _
  | p :: L, n => by
    have e : opAt (p :: L) = fun s => (if p.1 = s then p.2.2 else 0) + opAt L s := by funext s; simp [opAt]
    rw [e, fs_add]
    have h1 := fs_one p.1 p.2.2 n
    have h2 := fs_op L n
    simp only [uSum, List.map_cons, List.sum_cons] at h2 ⊢
    omega
theorem fs_mono (f : Nat → Nat) {n m : Nat} (h : n ≤ m) : fs f n ≤ fs f m := by
  induction m with
  | zero => rw [show n = 0 by omega]; exact Nat.le_refl _
  | succ m ih =>
    by_cases e : n = m + 1
    · rw [e]; exact Nat.le_refl _
    · exact Nat.le_trans (ih (by omega)) (Nat.le_add_right _ _)
theorem fSum_le (F : Nat → Nat) (x : Int32) : ∀ n, fSum F x n ≤ fs F n
  | 0 => Nat.le_refl _
  | n + 1 => by
    have := fSum_le F x n
    unfold fSum fs
    split <;> omega
theorem loU_le (w : Wk) (ℓ : Lst) (x : Int32) : ∀ n, loU w ℓ x n ≤ fSum ℓ.2.1 x 8 + fs (fun s => ℓ.2.2 s + opAt ℓ.1 s) n
  | 0 => Nat.le_refl _
  | n + 1 => by
    have := loU_le w ℓ x n
    unfold loU fs
    split <;> omega
theorem hiU_le (w : Wk) (ℓ : Lst) (x : Int32) : ∀ n, hiU w ℓ x n ≤ fSum ℓ.2.1 x 8 + fs (fun s => ℓ.2.2 s + opAt ℓ.1 s) n
  | 0 => Nat.le_refl _
  | n + 1 => by
    have := hiU_le w ℓ x n
    unfold hiU fs
    split <;> omega
theorem lohi {w : Wk} {ℓ : Lst} (hW : WW w) (hI : LI w ℓ) (x : Int32) : lo w ℓ x ≤ 2 ^ 60 ∧ hi w ℓ x ≤ 2 ^ 60 := by
  have h1 := loU_le w ℓ x w.1
  have h2 := hiU_le w ℓ x w.1
  have h3 := fSum_le ℓ.2.1 x 8
  rw [fs_add] at h1 h2
  have h4 := fs_mono ℓ.2.2 hW.n
  have h5 := fs_op ℓ.1 w.1
  have h6 := hI.2.2
  have e1 : fs (fun i => ℓ.2.2 i) w.1 = fs ℓ.2.2 w.1 := rfl
  unfold lo hi
  omega
section TSW
variable {Y : Env3} {ad : Nat → Nat} {μ : Mth} {pc : Nat} {ls : List (Option Value)} {st : List Value} {h : Mem}
theorem r_tsI {x : Int32} {dflt lo hi : Int} {offs : Array Int} {len : Nat} {off : Int} {tgt : Nat} (hd : decode μ.2.1 pc = .ok (.tableswitch dflt lo hi offs, len)) (h1 : ¬ x.toInt < lo) (h2 : ¬ hi < x.toInt) (ho : offs[(x.toInt - lo).toNat]? = some off) (ht : (pc : Int) + off = (tgt : Int)) (k : G Y ad μ tgt ls st h) : G Y ad μ pc ls (.int x :: st) h := by
  intro C H locs lsc hH hl
  exact lv_tableIn C.1 C.2.1 hd h1 h2 ho ht (k C H locs lsc hH hl)
theorem r_tsO {x : Int32} {dflt lo hi : Int} {offs : Array Int} {len : Nat} {tgt : Nat} (hd : decode μ.2.1 pc = .ok (.tableswitch dflt lo hi offs, len)) (hx : x.toInt < lo ∨ hi < x.toInt) (ht : (pc : Int) + dflt = (tgt : Int)) (k : G Y ad μ tgt ls st h) : G Y ad μ pc ls (.int x :: st) h := by
  intro C H locs lsc hH hl
  exact lv_tableOut C.1 C.2.1 hd hx ht (k C H locs lsc hH hl)
end TSW
theorem tw_X3_told : decode mX3_told.2.1 1 = .ok (.tableswitch 72 0 4 #[35, 43, 51, 59, 67], 35) := by decide +kernel
section CLASS4
variable {ad : Nat → Nat} {h : Mem} {σ : Sta}
theorem SI.nb {σ : Sta} (S : SI σ) : ∀ l, σ.2.2.2.1 = some l → l.1 < 2147483648 := fun l hl => by
  have h1 := (S.2.2.1 l hl).1
  have h2 := S.1.1
  omega
theorem SI.kb {σ : Sta} (S : SI σ) (k : Nat) : ∀ l, σ.2.2.2.2 k = some l → l.1 < 2147483648 := fun l hl => by
  have h1 := (S.2.2.2 k l hl).1
  have h2 := S.1.1
  omega
theorem K_X3_grow {x : Int32} (S : SI σ) (C : CRep h σ) : Con ad mX3_grow [.ref (ad 0), .int x] h (qI fun r h' => r = (fGrow σ x).1 ∧ CRep h' (fGrow σ x).2 ∧ Fr (fun a => a < 91) h h') := by
  have e5 := C.2.1
  have ho := S.2.1
  refine Con.mk vX3_grow.1 vX3_grow.2.2.2.2 [some (.ref (ad 0)), some (.int x)] rfl (Nat.le_of_ble_eq_true rfl) (fun Y hM => ?_)
  refine r_il aX3_grow_0 rfl ?_
  refine r_z_lt aX3_grow_1 (fun c1 => ?_) (fun c1 => ?_)
  · -- to 11
    refine r_ki aX3_grow_11 ?_
    exact r_iret hM aX3_grow_12 rfl (by unfold fGrow; rw [inN_lt0 c1]; exact ⟨rfl, C, Fr.rf⟩)
  · -- to 4
    refine r_il aX3_grow_4 rfl ?_
    refine r_ki aX3_grow_5 ?_
    refine r_c_le aX3_grow_8 (fun c8 => ?_) (fun c8 => ?_)
    · -- to 13
      obtain ⟨n, hn, rfl, hx⟩ := inN_le2 c1 c8 (by decide)
      refine r_al aX3_grow_13 rfl ?_
      refine r_getR aX3_grow_14 rfl rfl ?_
      refine r_VZ0 aX3_grow_17 vX0_exists rfl (K_ex isL55 C.2.2.2.1 S.nb) (fun x17 h17 Q17 => ?_)
      rw [Q17.1]
      refine r_b_ne aX3_grow_20 (fun c20 => ?_) (fun c20 => ?_)
      · -- to 26
        obtain ⟨l, hl⟩ := Option.isSome_iff_exists.mp (Q17.2.symm.trans c20)
        have LO1 := C.2.2.2.1
        rw [hl] at LO1
        obtain ⟨a1, a2, a3⟩ := LO1
        have hI := S.2.2.1 l hl
        refine r_al aX3_grow_26 rfl ?_
        refine r_al aX3_grow_27 rfl ?_
        refine r_getR aX3_grow_28 rfl rfl ?_
        refine r_al aX3_grow_31 rfl ?_
        refine r_gI aX3_grow_32 rfl rfl e5 ?_
        refine r_il aX3_grow_35 rfl ?_
        refine r_VI3 aX3_grow_36 vX3_goOnTimes rfl (K_X3_goOnTimes isL55 (by omega) S.ww C.1 a3 hI.2 C.2.2.1 ho a2 (by omega)) (fun x36 h36 Q36 => ?_)
        refine r_iret hM aX3_grow_39 rfl ?_
        unfold fGrow
        rw [hx]
        dsimp only
        rw [hl]
        obtain ⟨q1, q2, q3, q4, q5⟩ := Q36
        exact ⟨q1, C.now q5 (fun a z => Or.inl z) ⟨q3.trans a1, q4, q2⟩ (fun _ => C.2.2.2.2.2 (Or.inl (by rw [hl]; exact fun z => by cases z))), q5.mono (fun a z => z.elim (fun z => by have := z.2; omega) (fun z => by have := z.2; omega))⟩
      · -- to 23
        refine r_ki aX3_grow_23 ?_
        exact r_iret hM aX3_grow_25 rfl (by unfold fGrow; rw [hx]; dsimp only; rw [Option.isSome_eq_false_iff.mp (Q17.2.symm.trans c20) |> Option.isNone_iff_eq_none.mp]; exact ⟨rfl, C, Fr.rf⟩)
    · -- to 11
      refine r_ki aX3_grow_11 ?_
      exact r_iret hM aX3_grow_12 rfl (by unfold fGrow; rw [inN_nle c8 (by decide)]; exact ⟨rfl, C, Fr.rf⟩)
theorem fUntil_b {x y z : Int32} (H : inN x 256 = none ∨ inN y 61 = none ∨ inN z 501 = none) : fUntil σ x y z = (-1, σ) := by
  unfold fUntil
  split
  · next a b c ha hb hc =>
    rcases H with H | H | H
    · rw [ha] at H; cases H
    · rw [hb] at H; cases H
    · rw [hc] at H; cases H
  · rfl
theorem K_X3_until {x y z : Int32} (S : SI σ) (C : CRep h σ) : Con ad mX3_until [.ref (ad 0), .int x, .int y, .int z] h (qI fun r h' => r = (fUntil σ x y z).1 ∧ CRep h' (fUntil σ x y z).2 ∧ Fr (fun a => a < 91) h h') := by
  have e5 := C.2.1
  have ho := S.2.1
  have bad : fUntil σ x y z = (-1, σ) → (-1 : Int32) = (fUntil σ x y z).1 ∧ CRep h (fUntil σ x y z).2 ∧ Fr (fun a => a < 91) h h := fun E => by rw [E]; exact ⟨rfl, C, Fr.rf⟩
  refine Con.mk vX3_until.1 vX3_until.2.2.2.2 [some (.ref (ad 0)), some (.int x), some (.int y), some (.int z), none, none, none] rfl (Nat.le_of_ble_eq_true rfl) (fun Y hM => ?_)
  refine r_il aX3_until_0 rfl ?_
  refine r_SZ1 aX3_until_1 vX3_isSet (K_X3_isSet) (fun x1 h1 Q1 => ?_)
  rw [Q1.1]
  refine r_b_eq aX3_until_4 (fun c4 => ?_) (fun c4 => ?_)
  · -- to 28
    refine r_ki aX3_until_28 ?_
    exact r_iret hM aX3_until_29 rfl (bad (fUntil_b (Or.inl (inN_no (Q1.2.symm.trans c4)))))
  · -- to 7
    refine r_il aX3_until_7 rfl ?_
    refine r_z_lt aX3_until_8 (fun c8 => ?_) (fun c8 => ?_)
    · -- to 28
      refine r_ki aX3_until_28 ?_
      exact r_iret hM aX3_until_29 rfl (bad (fUntil_b (Or.inr (Or.inl (inN_lt0 c8)))))
    · -- to 11
      refine r_il aX3_until_11 rfl ?_
      refine r_ki aX3_until_12 ?_
      refine r_c_gt aX3_until_14 (fun c14 => ?_) (fun c14 => ?_)
      · -- to 28
        refine r_ki aX3_until_28 ?_
        exact r_iret hM aX3_until_29 rfl (bad (fUntil_b (Or.inr (Or.inl (inN_gt c14 (by decide))))))
      · -- to 17
        refine r_il aX3_until_17 rfl ?_
        refine r_z_lt aX3_until_18 (fun c18 => ?_) (fun c18 => ?_)
        · -- to 28
          refine r_ki aX3_until_28 ?_
          exact r_iret hM aX3_until_29 rfl (bad (fUntil_b (Or.inr (Or.inr (inN_lt0 c18)))))
        · -- to 21
          refine r_il aX3_until_21 rfl ?_
          refine r_ki aX3_until_22 ?_
          refine r_c_le aX3_until_25 (fun c25 => ?_) (fun c25 => ?_)
          · -- to 30
            obtain ⟨b, -, -, hxb⟩ := inN_ex (by decide) (Q1.2.symm.trans c4)
            obtain ⟨v, hv, rfl, hyv⟩ := inN_ex (by decide) (inN_le c8 c14 (by decide))
            obtain ⟨n, hn, rfl, hzn⟩ := inN_le2 c18 c25 (by decide)
            have E0 : fUntil σ x (nI v) (nI n) = match σ.2.2.2.1 with
                | none => (-2, σ)
                | some l => (nI (untN σ.1 σ.2.2.1 σ.2.1 x (narr v) n l.2.2).1, setNow σ (some (l.1, l.2.1 + (untN σ.1 σ.2.2.1 σ.2.1 x (narr v) n l.2.2).1, (untN σ.1 σ.2.2.1 σ.2.1 x (narr v) n l.2.2).2))) := by
              unfold fUntil
              rw [hxb, hyv, hzn]
              rfl
            rw [E0] at hM
            clear E0 bad hxb hyv hzn c8 c14 c18 c25 Q1
            refine r_al aX3_until_30 rfl ?_
            refine r_getR aX3_until_31 rfl rfl ?_
            refine r_VZ0 aX3_until_34 vX0_exists rfl (K_ex isL55 C.2.2.2.1 S.nb) (fun x34 h34 Q34 => ?_)
            rw [Q34.1]
            refine r_b_ne aX3_until_37 (fun c37 => ?_) (fun c37 => ?_)
            · obtain ⟨l, hl⟩ := Option.isSome_iff_exists.mp (Q34.2.symm.trans c37)
              rw [hl] at hM
              dsimp only at hM
              have LO1 := C.2.2.2.1
              rw [hl] at LO1
              obtain ⟨a1, a2, a3⟩ := LO1
              have hI := S.2.2.1 l hl
              have hV := C.2.2.2.2.2 (Or.inl (by rw [hl]; exact fun z => by cases z))
              have key : ∀ (k i : Nat) (g : Mem) (m : Lst), n - i = k → i ≤ n → untN σ.1 σ.2.2.1 σ.2.1 x (narr v) n l.2.2 = (i + (untN σ.1 σ.2.2.1 σ.2.1 x (narr v) k m).1, (untN σ.1 σ.2.2.1 σ.2.1 x (narr v) k m).2) → LR g 55 m.1 m.2.1 m.2.2 → LI σ.1 m → g.1 55 0 = h.1 55 0 → g.1 55 1 = nI (l.2.1 + i) → Fr (inLS 55) h g → G Y ad mX3_until 54 [some (.ref (ad 0)), some (.int x), some (.int (nI v)), some (.int (nI n)), some (.long (narr v)), none, some (.int (nI i))] [] g := by
                intro k
                induction k with
                | zero =>
                  intro i g m hk0 hi hE hLg hIg g0 g1 hF
                  have e : i = n := by omega
                  subst e
                  refine r_il aX3_until_54 rfl ?_
                  refine r_il aX3_until_56 rfl ?_
                  refine r_n_ge aX3_until_57 (by omega) (by omega) (fun c57 => ?_) (fun c57 => by omega)
                  refine r_il aX3_until_99 rfl ?_
                  refine r_iret hM aX3_until_100 rfl ?_
                  rw [hE]
                  exact ⟨rfl, C.now hF (fun a z => Or.inl z) ⟨g0.trans a1, g1, hLg⟩ (fun _ => hV), hF.mono (fun a z => z.elim (fun z => by have := z.2; omega) (fun z => by have := z.2; omega))⟩
                | succ k ih =>
                  intro i g m hk0 hi hE hLg hIg g0 g1 hF
                  have hq : ∀ a, inLS 55 a → 51 ≤ a := fun a z => z.elim (fun z => by have := z.1; omega) (fun z => z.1)
                  have hRg := C.1.fr hF (fun a z => Or.inl (by have := hq a z; omega))
                  have hVg := hV.fr hF (fun a z => Or.inr (hq a z))
                  have e0 : g.1 0 = h.1 0 := (hF 0 (fun z => by have := hq 0 z; omega)).1
                  have o1 : n - (i + 1) = k := by omega
                  have o2 : i + 1 ≤ n := by omega
                  rw [untN] at hE
                  refine r_il aX3_until_54 rfl ?_
                  refine r_il aX3_until_56 rfl ?_
                  refine r_n_ge aX3_until_57 (by omega) (by omega) (fun c57 => by omega) (fun c57 => ?_)
                  refine r_al aX3_until_60 rfl ?_
                  refine r_al aX3_until_61 rfl ?_
                  refine r_getR aX3_until_62 rfl rfl ?_
                  refine r_il aX3_until_65 rfl ?_
                  refine r_VL2 aX3_until_66 vX3_width rfl (K_X3_width isL55 S.ww hRg hVg hLg) (fun x66 h66 Q66 => ?_)
                  rw [Q66.1, Q66.2]
                  refine r_ll aX3_until_69 rfl ?_
                  refine r_l_le aX3_until_71 aX3_until_72 (fun c71 => ?_) (fun c71 => ?_)
                  · rw [if_pos c71] at hE
                    refine r_il aX3_until_90 rfl ?_
                    refine r_iret hM aX3_until_92 rfl ?_
                    rw [hE]
                    exact ⟨rfl, C.now hF (fun a z => Or.inl z) ⟨g0.trans a1, g1, hLg⟩ (fun _ => hV), hF.mono (fun a z => z.elim (fun z => by have := z.2; omega) (fun z => by have := z.2; omega))⟩
                  · rw [if_neg c71] at hE
                    refine r_al aX3_until_75 rfl ?_
                    refine r_al aX3_until_76 rfl ?_
                    refine r_getR aX3_until_77 rfl rfl ?_
                    refine r_al aX3_until_80 rfl ?_
                    refine r_gI aX3_until_81 rfl rfl (v := nI σ.2.1) (by rw [e0]; exact e5) ?_
                    refine r_VZ2 aX3_until_84 vX3_goOnOnce rfl (K_X3_goOnOnce isL55 (by omega) S.ww hRg hLg hIg (by rw [e0]; exact C.2.2.1) ho g1) (fun x84 h84 Q84 => ?_)
                    obtain ⟨q1, q2, q3, q4, q5⟩ := Q84
                    cases hg : goS σ.1 σ.2.2.1 σ.2.1 m with
                    | none =>
                      rw [hg] at q1 q2 q4 hE
                      refine r_b_ne aX3_until_87 (fun c87 => by rw [q1] at c87; cases c87) (fun c87 => ?_)
                      refine r_il aX3_until_90 rfl ?_
                      refine r_iret hM aX3_until_92 rfl ?_
                      rw [hE]
                      exact ⟨rfl, C.now (hF.tr q5) (fun a z => Or.inl z) ⟨(q3.trans g0).trans a1, q4, q2⟩ (fun _ => hV), (hF.tr q5).mono (fun a z => z.elim (fun z => by have := z.2; omega) (fun z => by have := z.2; omega))⟩
                    | some m' =>
                      rw [hg] at q1 q2 q4 hE
                      refine r_b_ne aX3_until_87 (fun c87 => ?_) (fun c87 => by rw [q1] at c87; cases c87)
                      refine r_in6 aX3_until_93 rfl ?_
                      refine r_go aX3_until_96 ?_
                      exact ih (i + 1) h84 m' o1 o2 (by rw [hE]; dsimp only; rw [show i + 1 + (untN σ.1 σ.2.2.1 σ.2.1 x (narr v) k m').1 = i + ((untN σ.1 σ.2.2.1 σ.2.1 x (narr v) k m').1 + 1) by omega]) q2 (goS_li S.ww hIg hg) (q3.trans g0) (by rw [q4]; rfl) (hF.tr q5)
              refine r_kl aX3_until_43 ?_
              refine r_ki aX3_until_44 ?_
              refine r_il aX3_until_46 rfl ?_
              refine r_isubN aX3_until_47 (by omega) ?_
              refine r_lshl aX3_until_48 ?_
              refine r_ls4 aX3_until_49 rfl ?_
              refine r_ki aX3_until_51 ?_
              refine r_is6 aX3_until_52 rfl ?_
              exact key n 0 h l.2.2 rfl (by omega) (by rw [Nat.zero_add]) a3 hI.2 rfl a2 Fr.rf
            · rw [Option.isNone_iff_eq_none.mp (Option.isSome_eq_false_iff.mp (Q34.2.symm.trans c37))] at hM
              refine r_ki aX3_until_40 ?_
              exact r_iret hM aX3_until_42 rfl ⟨rfl, C, Fr.rf⟩
          · -- to 28
            refine r_ki aX3_until_28 ?_
            exact r_iret hM aX3_until_29 rfl (bad (fUntil_b (Or.inr (Or.inr (inN_nle c25 (by decide))))))
theorem K_X3_end {x y : Int32} (S : SI σ) (C : CRep h σ) : Con ad mX3_end [.ref (ad 0), .int x, .int y] h (qL fun r h' => r = fEnd σ x y ∧ CRep h' σ ∧ Fr (fun a => a < 91) h h') := by
  refine Con.mk vX3_end.1 vX3_end.2.2.2.2 [some (.ref (ad 0)), some (.int x), some (.int y)] rfl (Nat.le_of_ble_eq_true rfl) (fun Y hM => ?_)
  refine r_il aX3_end_0 rfl ?_
  refine r_SZ1 aX3_end_1 vX3_isSet (K_X3_isSet) (fun x1 h1 Q1 => ?_)
  rw [Q1.1]
  refine r_b_eq aX3_end_4 (fun c4 => ?_) (fun c4 => ?_)
  · -- to 24
    refine r_kl aX3_end_24 ?_
    exact r_lret hM aX3_end_25 rfl ⟨by unfold fEnd; rw [inN_no (Q1.2.symm.trans c4)], C, Fr.rf⟩
  · -- to 7
    refine r_il aX3_end_7 rfl ?_
    refine r_SZ1 aX3_end_8 vX3_isSide (K_X3_isSide) (fun x8 h8 Q8 => ?_)
    rw [Q8.1]
    refine r_b_eq aX3_end_11 (fun c11 => ?_) (fun c11 => ?_)
    · -- to 24
      refine r_kl aX3_end_24 ?_
      exact r_lret hM aX3_end_25 rfl ⟨by obtain ⟨a, -, -, ha⟩ := inN_ex (by decide) (Q1.2.symm.trans c4); unfold fEnd; rw [ha, inN_no (Q8.2.symm.trans c11)], C, Fr.rf⟩
    · -- to 14
      refine r_al aX3_end_14 rfl ?_
      refine r_getR aX3_end_15 rfl rfl ?_
      refine r_VZ0 aX3_end_18 vX0_exists rfl (K_ex isL55 C.2.2.2.1 S.nb) (fun x18 h18 Q18 => ?_)
      rw [Q18.1]
      obtain ⟨a, -, -, ha⟩ := inN_ex (by decide) (Q1.2.symm.trans c4)
      obtain ⟨b, hb, rfl, hb2⟩ := inN_ex (by decide) (Q8.2.symm.trans c11)
      refine r_b_ne aX3_end_21 (fun c21 => ?_) (fun c21 => ?_)
      · -- to 26
        obtain ⟨l, hl⟩ := Option.isSome_iff_exists.mp (Q18.2.symm.trans c21)
        have LO1 := C.2.2.2.1
        rw [hl] at LO1
        obtain ⟨a1, a2, a3⟩ := LO1
        have hV := C.2.2.2.2.2 (Or.inl (by rw [hl]; exact fun z => by cases z))
        refine r_il aX3_end_26 rfl ?_
        refine r_nz_ne aX3_end_27 (by omega) (fun c27 => ?_) (fun c27 => ?_)
        · -- to 42
          refine r_al aX3_end_42 rfl ?_
          refine r_al aX3_end_43 rfl ?_
          refine r_getR aX3_end_44 rfl rfl ?_
          refine r_il aX3_end_47 rfl ?_
          refine r_VL2 aX3_end_48 vX3_high rfl (K_X3_high isL55 S.ww C.1 hV a3) (fun x48 h48 Q48 => ?_)
          rw [Q48.1, Q48.2]
          exact r_lret hM aX3_end_51 rfl ⟨by unfold fEnd; rw [ha, hb2, hl, show b = 1 by omega]; rfl, C, Fr.rf⟩
        · -- to 30
          refine r_al aX3_end_30 rfl ?_
          refine r_al aX3_end_31 rfl ?_
          refine r_getR aX3_end_32 rfl rfl ?_
          refine r_il aX3_end_35 rfl ?_
          refine r_VL2 aX3_end_36 vX3_low rfl (K_X3_low isL55 S.ww C.1 hV a3) (fun x36 h36 Q36 => ?_)
          rw [Q36.1, Q36.2]
          refine r_go aX3_end_39 ?_
          exact r_lret hM aX3_end_51 rfl ⟨by unfold fEnd; rw [ha, hb2, hl, c27]; rfl, C, Fr.rf⟩
      · -- to 24
        refine r_kl aX3_end_24 ?_
        exact r_lret hM aX3_end_25 rfl ⟨by unfold fEnd; rw [ha, hb2, Option.isNone_iff_eq_none.mp (Option.isSome_eq_false_iff.mp (Q18.2.symm.trans c21))]; rcases (by omega : b = 0 ∨ b = 1) with z | z <;> (rw [z]; rfl), C, Fr.rf⟩
theorem fGiven_b {x y z : Int32} (H : inN x 256 = none ∨ inN y 256 = none ∨ inN z 2 = none) : fGiven σ x y z = -1 := by
  unfold fGiven
  split
  · next a b c ha hb hc =>
    rcases H with H | H | H
    · rw [ha] at H; cases H
    · rw [hb] at H; cases H
    · rw [hc] at H; cases H
  · rfl
theorem K_X3_given {x y z : Int32} (S : SI σ) (C : CRep h σ) : Con ad mX3_given [.ref (ad 0), .int x, .int y, .int z] h (qI fun r h' => r = fGiven σ x y z ∧ CRep h' σ ∧ Fr (fun a => a < 91) h h') := by
  refine Con.mk vX3_given.1 vX3_given.2.2.2.2 [some (.ref (ad 0)), some (.int x), some (.int y), some (.int z), none, none] rfl (Nat.le_of_ble_eq_true rfl) (fun Y hM => ?_)
  refine r_il aX3_given_0 rfl ?_
  refine r_SZ1 aX3_given_1 vX3_isSet (K_X3_isSet) (fun x1 h1 Q1 => ?_)
  rw [Q1.1]
  refine r_b_eq aX3_given_4 (fun c4 => ?_) (fun c4 => ?_)
  · -- to 21
    refine r_ki aX3_given_21 ?_
    exact r_iret hM aX3_given_22 rfl ⟨(fGiven_b (Or.inl (inN_no (Q1.2.symm.trans c4)))).symm, C, Fr.rf⟩
  · -- to 7
    refine r_il aX3_given_7 rfl ?_
    refine r_SZ1 aX3_given_8 vX3_isSet (K_X3_isSet) (fun x8 h8 Q8 => ?_)
    rw [Q8.1]
    refine r_b_eq aX3_given_11 (fun c11 => ?_) (fun c11 => ?_)
    · -- to 21
      refine r_ki aX3_given_21 ?_
      exact r_iret hM aX3_given_22 rfl ⟨(fGiven_b (Or.inr (Or.inl (inN_no (Q8.2.symm.trans c11))))).symm, C, Fr.rf⟩
    · -- to 14
      refine r_il aX3_given_14 rfl ?_
      refine r_SZ1 aX3_given_15 vX3_isSide (K_X3_isSide) (fun x15 h15 Q15 => ?_)
      rw [Q15.1]
      refine r_b_ne aX3_given_18 (fun c18 => ?_) (fun c18 => ?_)
      · -- to 23
        refine r_al aX3_given_23 rfl ?_
        refine r_getR aX3_given_24 rfl rfl ?_
        refine r_VZ0 aX3_given_27 vX0_exists rfl (K_ex isL55 C.2.2.2.1 S.nb) (fun x27 h27 Q27 => ?_)
        rw [Q27.1]
        obtain ⟨a, -, -, ha⟩ := inN_ex (by decide) (Q1.2.symm.trans c4)
        obtain ⟨b, -, -, hb⟩ := inN_ex (by decide) (Q8.2.symm.trans c11)
        obtain ⟨d, hd, rfl, hd2⟩ := inN_ex (by decide) (Q15.2.symm.trans c18)
        refine r_b_ne aX3_given_30 (fun c30 => ?_) (fun c30 => ?_)
        · -- to 36
          obtain ⟨l, hl⟩ := Option.isSome_iff_exists.mp (Q27.2.symm.trans c30)
          have LO1 := C.2.2.2.1
          rw [hl] at LO1
          obtain ⟨a1, a2, a3⟩ := LO1
          have hV := C.2.2.2.2.2 (Or.inl (by rw [hl]; exact fun z => by cases z))
          have hI := (S.2.2.1 l hl).2
          have b1 := lohi S.ww hI (x &&& y)
          have b2 := lohi S.ww hI (y &&& (x ^^^ -1))
          refine r_il aX3_given_36 rfl ?_
          refine r_il aX3_given_37 rfl ?_
          refine r_iand aX3_given_38 ?_
          refine r_is4 aX3_given_39 rfl ?_
          refine r_il aX3_given_41 rfl ?_
          refine r_il aX3_given_42 rfl ?_
          refine r_ki aX3_given_43 ?_
          refine r_ixor aX3_given_44 ?_
          refine r_iand aX3_given_45 ?_
          refine r_is5 aX3_given_46 rfl ?_
          refine r_il aX3_given_48 rfl ?_
          refine r_nz_ne aX3_given_49 (by omega) (fun c49 => ?_) (fun c49 => ?_)
          · -- to 76
            refine r_al aX3_given_76 rfl ?_
            refine r_al aX3_given_77 rfl ?_
            refine r_getR aX3_given_78 rfl rfl ?_
            refine r_il aX3_given_81 rfl ?_
            refine r_VL2 aX3_given_83 vX3_high rfl (K_X3_high isL55 S.ww C.1 hV a3) (fun x83 h83 Q83 => ?_)
            rw [Q83.1, Q83.2]
            refine r_al aX3_given_86 rfl ?_
            refine r_al aX3_given_87 rfl ?_
            refine r_getR aX3_given_88 rfl rfl ?_
            refine r_il aX3_given_91 rfl ?_
            refine r_VL2 aX3_given_93 vX3_low rfl (K_X3_low isL55 S.ww C.1 hV a3) (fun x93 h93 Q93 => ?_)
            rw [Q93.1, Q93.2]
            refine r_SI2 aX3_given_96 vX3_greatestPart (K_X3_greatestPart (by omega) (by omega)) (fun x96 h96 Q96 => ?_)
            rw [Q96.1, Q96.2]
            exact r_iret hM aX3_given_99 rfl ⟨by unfold fGiven; rw [ha, hb, hd2]; dsimp only; rw [hl]; dsimp only; rw [if_neg c49], C, Fr.rf⟩
          · -- to 52
            refine r_al aX3_given_52 rfl ?_
            refine r_al aX3_given_53 rfl ?_
            refine r_getR aX3_given_54 rfl rfl ?_
            refine r_il aX3_given_57 rfl ?_
            refine r_VL2 aX3_given_59 vX3_low rfl (K_X3_low isL55 S.ww C.1 hV a3) (fun x59 h59 Q59 => ?_)
            rw [Q59.1, Q59.2]
            refine r_al aX3_given_62 rfl ?_
            refine r_al aX3_given_63 rfl ?_
            refine r_getR aX3_given_64 rfl rfl ?_
            refine r_il aX3_given_67 rfl ?_
            refine r_VL2 aX3_given_69 vX3_high rfl (K_X3_high isL55 S.ww C.1 hV a3) (fun x69 h69 Q69 => ?_)
            rw [Q69.1, Q69.2]
            refine r_SI2 aX3_given_72 vX3_leastPart (K_X3_leastPart (by omega) (by omega)) (fun x72 h72 Q72 => ?_)
            rw [Q72.1, Q72.2]
            exact r_iret hM aX3_given_75 rfl ⟨by unfold fGiven; rw [ha, hb, hd2]; dsimp only; rw [hl]; dsimp only; rw [if_pos c49], C, Fr.rf⟩
        · -- to 33
          refine r_ki aX3_given_33 ?_
          exact r_iret hM aX3_given_35 rfl ⟨by unfold fGiven; rw [ha, hb, hd2]; dsimp only; rw [Option.isNone_iff_eq_none.mp (Option.isSome_eq_false_iff.mp (Q27.2.symm.trans c30))], C, Fr.rf⟩
      · -- to 21
        refine r_ki aX3_given_21 ?_
        exact r_iret hM aX3_given_22 rfl ⟨(fGiven_b (Or.inr (Or.inr (inN_no (Q15.2.symm.trans c18))))).symm, C, Fr.rf⟩
theorem fBest_b {x y : Int32} (H : inN x 256 = none ∨ inN y 201 = none) : fBest σ x y = -1 := by
  unfold fBest
  split
  · next a b ha hb =>
    rcases H with H | H
    · rw [ha] at H; cases H
    · rw [hb] at H; cases H
  · rfl
/-- the trial's cells are free -/
theorem CRep.tri {h h' : Mem} {σ : Sta} (C : CRep h σ) (hf : Fr (inLS 62) h h') : CRep h' σ := by
  have q : ∀ a, inLS 62 a → 51 ≤ a ∧ a < 55 ∨ 62 ≤ a ∧ a < 69 := fun a z => z.elim Or.inr Or.inl
  have e0 : h'.1 0 = h.1 0 := (hf 0 (fun z => by have := q 0 z; omega)).1
  exact ⟨C.1.fr hf (fun a z => by have := q a z; omega), by rw [e0]; exact C.2.1, by rw [e0]; exact C.2.2.1, C.2.2.2.1.fr hf (fun a z => by have := q a z; omega), fun k hk => (C.2.2.2.2.1 k hk).fr hf (fun a z => by have := q a z; omega), fun z => (C.2.2.2.2.2 z).fr hf (fun a z => by have := q a z; omega)⟩
theorem K_X3_best {x y : Int32} (S : SI σ) (C : CRep h σ) : Con ad mX3_best [.ref (ad 0), .int x, .int y] h (qI fun r h' => r = fBest σ x y ∧ CRep h' σ ∧ Fr (fun a => a < 91) h h') := by
  have f91 : ∀ a, inLS 62 a → a < 91 := fun a z => z.elim (fun z => by have := z.2; omega) (fun z => by have := z.2; omega)
  refine Con.mk vX3_best.1 vX3_best.2.2.2.2 [some (.ref (ad 0)), some (.int x), some (.int y), none, none, none, none, none, none] rfl (Nat.le_of_ble_eq_true rfl) (fun Y hM => ?_)
  refine r_il aX3_best_0 rfl ?_
  refine r_SZ1 aX3_best_1 vX3_isSet (K_X3_isSet) (fun x1 h1 Q1 => ?_)
  rw [Q1.1]
  refine r_b_eq aX3_best_4 (fun c4 => ?_) (fun c4 => ?_)
  · -- to 18
    refine r_ki aX3_best_18 ?_
    exact r_iret hM aX3_best_19 rfl ⟨(fBest_b (Or.inl (inN_no (Q1.2.symm.trans c4)))).symm, C, Fr.rf⟩
  · -- to 7
    refine r_il aX3_best_7 rfl ?_
    refine r_z_lt aX3_best_8 (fun c8 => ?_) (fun c8 => ?_)
    · -- to 18
      refine r_ki aX3_best_18 ?_
      exact r_iret hM aX3_best_19 rfl ⟨(fBest_b (Or.inr (inN_lt0 c8))).symm, C, Fr.rf⟩
    · -- to 11
      refine r_il aX3_best_11 rfl ?_
      refine r_ki aX3_best_12 ?_
      refine r_c_le aX3_best_15 (fun c15 => ?_) (fun c15 => ?_)
      · -- to 20
        refine r_al aX3_best_20 rfl ?_
        refine r_getR aX3_best_21 rfl rfl ?_
        refine r_VZ0 aX3_best_24 vX0_exists rfl (K_ex isL55 C.2.2.2.1 S.nb) (fun x24 h24 Q24 => ?_)
        rw [Q24.1]
        obtain ⟨a, -, -, ha⟩ := inN_ex (by decide) (Q1.2.symm.trans c4)
        obtain ⟨n, hn, rfl, hn2⟩ := inN_le2 c8 c15 (by decide)
        refine r_b_ne aX3_best_27 (fun c27 => ?_) (fun c27 => ?_)
        · -- to 33
          obtain ⟨l, hl⟩ := Option.isSome_iff_exists.mp (Q24.2.symm.trans c27)
          have E0 : fBest σ x (nI n) = if triW σ l.1 x n 1 < triW σ l.1 x n 0 then (if triW σ l.1 x n 2 < triW σ l.1 x n 1 then nI 2 else nI 1) else (if triW σ l.1 x n 2 < triW σ l.1 x n 0 then nI 2 else nI 0) := by
            unfold fBest
            rw [ha, hn2]
            dsimp only
            rw [hl]
          rw [E0] at hM
          clear E0 ha hn2 c8 c15 Q1 Q24
          have tr : ∀ (g : Mem) (kind : Nat), kind ≤ 2 → CRep g σ → Con ad mX3_trialWidth [.ref (ad 0), .int (nI kind), .int x, .int (nI n)] g (qL fun y h' => y = triW σ l.1 x n kind ∧ Fr (inLS 62) g h') := by
            intro g kind hk Cg
            have LO1 := Cg.2.2.2.1
            rw [hl] at LO1
            exact K_X3_trialWidth rfl S.ww Cg.1 (Cg.2.2.2.2.2 (Or.inl (by rw [hl]; exact fun z => by cases z))) Cg.2.2.1 LO1.1 (S.2.2.1 l hl).1 hk (by omega)
          have fin : ∀ (g : Mem) (bk : Nat) (bw : Int64), Fr (fun a => a < 91) h g → CRep g σ → nI bk = (if triW σ l.1 x n 1 < triW σ l.1 x n 0 then (if triW σ l.1 x n 2 < triW σ l.1 x n 1 then nI 2 else nI 1) else (if triW σ l.1 x n 2 < triW σ l.1 x n 0 then nI 2 else nI 0)) → G Y ad mX3_best 47 [some (.ref (ad 0)), some (.int x), some (.int (nI n)), some (.int (nI bk)), some (.long bw), none, some (.int (nI 3)), none, none] [] g := by
            intro g bk bw hF Cg hE
            refine r_il aX3_best_47 rfl ?_
            refine r_ki aX3_best_49 ?_
            refine r_n_gt aX3_best_50 (by decide) (by decide) (fun c50 => ?_) (fun c50 => by omega)
            refine r_il aX3_best_84 rfl ?_
            exact r_iret hM aX3_best_85 rfl ⟨hE, Cg, hF⟩
          have step : ∀ (g : Mem) (kd bk : Nat) (bw : Int64), kd ≤ 2 → Fr (fun a => a < 91) h g → CRep g σ → (∀ g', Fr (fun a => a < 91) h g' → CRep g' σ → G Y ad mX3_best 47 [some (.ref (ad 0)), some (.int x), some (.int (nI n)), some (.int (nI (if triW σ l.1 x n kd < bw then kd else bk))), some (.long (if triW σ l.1 x n kd < bw then triW σ l.1 x n kd else bw)), none, some (.int (nI (kd + 1))), none, none] [] g') → G Y ad mX3_best 47 [some (.ref (ad 0)), some (.int x), some (.int (nI n)), some (.int (nI bk)), some (.long bw), none, some (.int (nI kd)), none, none] [] g := by
            intro g kd bk bw hkd hF Cg out
            refine r_il aX3_best_47 rfl ?_
            refine r_ki aX3_best_49 ?_
            refine r_n_gt aX3_best_50 (by omega) (by decide) (fun c50 => by omega) (fun c50 => ?_)
            refine r_al aX3_best_53 rfl ?_
            refine r_il aX3_best_54 rfl ?_
            refine r_il aX3_best_56 rfl ?_
            refine r_il aX3_best_57 rfl ?_
            refine r_VL3 aX3_best_58 vX3_trialWidth rfl (tr g kd hkd Cg) (fun x58 h58 Q58 => ?_)
            obtain ⟨q1, q2⟩ := Q58
            subst q1
            have hF2 := hF.tr (q2.mono f91)
            refine r_ls7 aX3_best_61 rfl ?_
            refine r_ll aX3_best_63 rfl ?_
            refine r_ll aX3_best_65 rfl ?_
            refine r_l_ge aX3_best_67 aX3_best_68 (fun c67 => ?_) (fun c67 => ?_)
            · have hn : ¬ triW σ l.1 x n kd < bw := fun z => by rw [Int64.lt_iff_toInt_lt] at z; rw [Int64.le_iff_toInt_le] at c67; omega
              have := out h58 hF2 (Cg.tri q2)
              rw [if_neg hn, if_neg hn] at this
              refine r_in6 aX3_best_78 rfl ?_
              refine r_go aX3_best_81 ?_
              exact r_f7 this
            · have hn : triW σ l.1 x n kd < bw := by rw [Int64.lt_iff_toInt_lt]; rw [Int64.le_iff_toInt_le] at c67; omega
              have := out h58 hF2 (Cg.tri q2)
              rw [if_pos hn, if_pos hn] at this
              refine r_ll aX3_best_71 rfl ?_
              refine r_ls4 aX3_best_73 rfl ?_
              refine r_il aX3_best_75 rfl ?_
              refine r_is3 aX3_best_77 rfl ?_
              refine r_in6 aX3_best_78 rfl ?_
              refine r_go aX3_best_81 ?_
              exact r_f7 this
          refine r_ki aX3_best_33 ?_
          refine r_is3 aX3_best_34 rfl ?_
          refine r_al aX3_best_35 rfl ?_
          refine r_ki aX3_best_36 ?_
          refine r_il aX3_best_37 rfl ?_
          refine r_il aX3_best_38 rfl ?_
          refine r_VL3 aX3_best_39 vX3_trialWidth rfl (tr h 0 (by omega) C) (fun x39 h39 Q39 => ?_)
          obtain ⟨q1, q2⟩ := Q39
          subst q1
          refine r_ls4 aX3_best_42 rfl ?_
          refine r_ki aX3_best_44 ?_
          refine r_is6 aX3_best_45 rfl ?_
          refine step h39 1 0 _ (by omega) (q2.mono f91) (C.tri q2) (fun g1 F1 C1 => ?_)
          refine step g1 2 _ _ (by omega) F1 C1 (fun g2 F2 C2 => ?_)
          refine fin g2 _ _ F2 C2 ?_
          by_cases z1 : triW σ l.1 x n 1 < triW σ l.1 x n 0
          · rw [if_pos z1, if_pos z1, if_pos z1]
            by_cases z2 : triW σ l.1 x n 2 < triW σ l.1 x n 1
            · rw [if_pos z2, if_pos z2]
            · rw [if_neg z2, if_neg z2]
          · rw [if_neg z1, if_neg z1, if_neg z1]
            by_cases z2 : triW σ l.1 x n 2 < triW σ l.1 x n 0
            · rw [if_pos z2, if_pos z2]
            · rw [if_neg z2, if_neg z2]
        · -- to 30
          refine r_ki aX3_best_30 ?_
          exact r_iret hM aX3_best_32 rfl ⟨by unfold fBest; rw [ha, hn2]; dsimp only; rw [Option.isNone_iff_eq_none.mp (Option.isSome_eq_false_iff.mp (Q24.2.symm.trans c27))], C, Fr.rf⟩
      · -- to 18
        refine r_ki aX3_best_18 ?_
        exact r_iret hM aX3_best_19 rfl ⟨(fBest_b (Or.inr (inN_nle c15 (by decide)))).symm, C, Fr.rf⟩
end CLASS4

/-! the start of all -/
def h00 : Mem := (fun k => if k = 55 ∨ k = 62 ∨ k = 70 ∨ k = 77 ∨ k = 84 then (fun j => if j = 0 then -1 else 0) else fun _ => 0, fun _ _ => 0)
def adOf (q : Nat) (aW r1 r2 aS aN aT : Nat → Nat) (kq : Nat) (a5 a6 a7 aM : Nat → Nat) : Nat → Nat := fun k => if k < 1 then q else if k < 7 then aW (k - 1) else if k < 27 then r1 (k - 7) else if k < 28 then aW 6 else if k < 48 then r2 (k - 28) else if k < 51 then aW (k - 41) else if k < 55 then aS (k - 51) else if k < 62 then aN (k - 55) else if k < 69 then aT (k - 62) else if k < 70 then kq else if k < 77 then a5 (k - 70) else if k < 84 then a6 (k - 77) else if k < 91 then a7 (k - 84) else aM (k - 91)
section START
variable {ca : Nat → ClassId} {q kq : Nat} {aW r1 r2 aS aN aT a5 a6 a7 aM : Nat → Nat}
theorem e_r1 : (fun i => if i < 20 then some (r1 i) else none) = fun j => ((if j < 20 then some (7 + j) else none) : Option Nat).map (adOf q aW r1 r2 aS aN aT kq a5 a6 a7 aM) := by
  funext j
  by_cases h : j < 20
  · rw [if_pos h, if_pos h, Option.map_some]
    unfold adOf
    rw [if_neg (by omega), if_neg (by omega), if_pos (by omega), Nat.add_sub_cancel_left]
  · rw [if_neg h, if_neg h, Option.map_none]
theorem e_r2 : (fun i => if i < 20 then some (r2 i) else none) = fun j => ((if j < 20 then some (28 + j) else none) : Option Nat).map (adOf q aW r1 r2 aS aN aT kq a5 a6 a7 aM) := by
  funext j
  by_cases h : j < 20
  · rw [if_pos h, if_pos h, Option.map_some]
    unfold adOf
    rw [if_neg (by omega), if_neg (by omega), if_neg (by omega), if_neg (by omega), if_pos (by omega), Nat.add_sub_cancel_left]
  · rw [if_neg h, if_neg h, Option.map_none]
theorem e_k : va_up (va_up (va_up (fun _ => none) 0 (some (a5 0))) 1 (some (a6 0))) 2 (some (a7 0)) = fun j => ((if j < 3 then some (70 + 7 * j) else none) : Option Nat).map (adOf q aW r1 r2 aS aN aT kq a5 a6 a7 aM) := by
  funext j
  by_cases h : j < 3
  · rcases (by omega : j = 0 ∨ j = 1 ∨ j = 2) with rfl | rfl | rfl <;> rfl
  · rw [if_neg h, Option.map_none]
    unfold va_up
    rw [if_neg (by omega), if_neg (by omega), if_neg (by omega)]
set_option maxRecDepth 20000 in
theorem e_pic : wCls ca q aW r1 r2 aS aN aT kq a5 a6 a7 ++ wMod ca aM = pic (adOf q aW r1 r2 aS aN aT kq a5 a6 a7 aM) ca h00 := by
  unfold wCls wR wWlk
  rw [e_r1 (q := q) (aW := aW) (r1 := r1) (r2 := r2) (aS := aS) (aN := aN) (aT := aT) (kq := kq) (a5 := a5) (a6 := a6) (a7 := a7) (aM := aM), e_r2 (q := q) (aW := aW) (r1 := r1) (r2 := r2) (aS := aS) (aN := aN) (aT := aT) (kq := kq) (a5 := a5) (a6 := a6) (a7 := a7) (aM := aM), e_k (q := q) (aW := aW) (r1 := r1) (r2 := r2) (aS := aS) (aN := aN) (aT := aT) (kq := kq) (a5 := a5) (a6 := a6) (a7 := a7) (aM := aM)]
  rfl
end START
theorem h00_c : CRep h00 sta0 := by
  have z : ∀ k, k < 55 → h00.1 k = fun _ => 0 := fun k hk => by
    unfold h00
    dsimp only
    rw [if_neg (by omega)]
  refine ⟨⟨rfl, fun s hs => absurd hs (Nat.not_lt_zero _), fun s hs => absurd hs (Nat.not_lt_zero _), fun s hs => by rw [z 4 (by omega)]; rfl, fun s hs => by rw [z 5 (by omega)]; rfl, fun s hs i p hp => by simp [sta0] at hp, fun s hs i h1 h2 => by rw [z (28 + s) (by omega)]; rfl⟩, rfl, rfl, ⟨rfl, rfl, rfl⟩, fun k hk => ?_, fun z => ?_⟩
  · rcases (by omega : k = 0 ∨ k = 1 ∨ k = 2) with rfl | rfl | rfl <;> exact ⟨rfl, rfl, rfl⟩
  · rcases z with z | ⟨k, hk, z⟩
    · exact absurd rfl z
    · exact absurd rfl z
theorem h00_m : MRep h00 sta0 := ⟨⟨rfl, fun s hs => absurd hs (Nat.not_lt_zero _), fun s hs => absurd hs (Nat.not_lt_zero _), fun s hs => absurd hs (Nat.not_lt_zero _), fun s hs => absurd hs (Nat.not_lt_zero _), fun s hs => absurd hs (Nat.not_lt_zero _)⟩, rfl, rfl, rfl, fun k hk => by rcases (by omega : k = 0 ∨ k = 1 ∨ k = 2) with rfl | rfl | rfl <;> rfl, ⟨false, rfl, fun z => by cases z⟩⟩

section
-- ===== PART A: goes FIRST, ahead of the names: the tables' words, and 'selects' of the private methods out of them =====
/-- a private method of a class that the tables say can be made, by its rows of tables_1 -/
def lw_okq (q : MethodName × Nat) : Prop := (q.1.cls ≠ "java/lang/invoke/MethodHandle" ∧ q.1.cls ≠ "java/lang/invoke/VarHandle") ∧ Cond.instantiable q.1.cls q.2 ∈ tables_1 ∧ Cond.privateMethod q.1 ∈ tables_1 ∧ Cond.instanceMethod q.1 ∈ tables_1
theorem lw_p0 : lw_okq (⟨"RestBounds", "forgetWhatRestsOnWalk", "()V"⟩, 7) := ⟨⟨by decide +kernel, by decide +kernel⟩, List.mem_of_getElem? (i := 10) (by decide +kernel), List.mem_of_getElem? (i := 175) (by decide +kernel), List.mem_of_getElem? (i := 176) (by decide +kernel)⟩
theorem lw_p1 : lw_okq (⟨"RestBounds", "goOnTimes", "(LRestBounds$Listing;II)I"⟩, 7) := ⟨⟨by decide +kernel, by decide +kernel⟩, List.mem_of_getElem? (i := 10) (by decide +kernel), List.mem_of_getElem? (i := 296) (by decide +kernel), List.mem_of_getElem? (i := 297) (by decide +kernel)⟩
theorem lw_p2 : lw_okq (⟨"RestBounds", "goOnOnce", "(LRestBounds$Listing;I)Z"⟩, 7) := ⟨⟨by decide +kernel, by decide +kernel⟩, List.mem_of_getElem? (i := 10) (by decide +kernel), List.mem_of_getElem? (i := 300) (by decide +kernel), List.mem_of_getElem? (i := 301) (by decide +kernel)⟩
theorem lw_p3 : lw_okq (⟨"RestBounds", "width", "(LRestBounds$Listing;I)J"⟩, 7) := ⟨⟨by decide +kernel, by decide +kernel⟩, List.mem_of_getElem? (i := 10) (by decide +kernel), List.mem_of_getElem? (i := 370) (by decide +kernel), List.mem_of_getElem? (i := 371) (by decide +kernel)⟩
theorem lw_p4 : lw_okq (⟨"RestBounds", "high", "(LRestBounds$Listing;I)J"⟩, 7) := ⟨⟨by decide +kernel, by decide +kernel⟩, List.mem_of_getElem? (i := 10) (by decide +kernel), List.mem_of_getElem? (i := 374) (by decide +kernel), List.mem_of_getElem? (i := 375) (by decide +kernel)⟩
theorem lw_p5 : lw_okq (⟨"RestBounds", "low", "(LRestBounds$Listing;I)J"⟩, 7) := ⟨⟨by decide +kernel, by decide +kernel⟩, List.mem_of_getElem? (i := 10) (by decide +kernel), List.mem_of_getElem? (i := 382) (by decide +kernel), List.mem_of_getElem? (i := 383) (by decide +kernel)⟩
theorem lw_p6 : lw_okq (⟨"RestBounds", "trialWidth", "(III)J"⟩, 7) := ⟨⟨by decide +kernel, by decide +kernel⟩, List.mem_of_getElem? (i := 10) (by decide +kernel), List.mem_of_getElem? (i := 415) (by decide +kernel), List.mem_of_getElem? (i := 416) (by decide +kernel)⟩
theorem lw_p7 : lw_okq (⟨"RestBoundsModel", "forget", "()V"⟩, 25) := ⟨⟨by decide +kernel, by decide +kernel⟩, List.mem_of_getElem? (i := 454) (by decide +kernel), List.mem_of_getElem? (i := 543) (by decide +kernel), List.mem_of_getElem? (i := 544) (by decide +kernel)⟩
theorem lw_p8 : lw_okq (⟨"RestBoundsModel", "isState", "(I)Z"⟩, 25) := ⟨⟨by decide +kernel, by decide +kernel⟩, List.mem_of_getElem? (i := 454) (by decide +kernel), List.mem_of_getElem? (i := 551) (by decide +kernel), List.mem_of_getElem? (i := 552) (by decide +kernel)⟩
theorem lw_p9 : lw_okq (⟨"RestBoundsModel", "arrowOf", "(II)I"⟩, 25) := ⟨⟨by decide +kernel, by decide +kernel⟩, List.mem_of_getElem? (i := 454) (by decide +kernel), List.mem_of_getElem? (i := 555) (by decide +kernel), List.mem_of_getElem? (i := 556) (by decide +kernel)⟩
theorem lw_p10 : lw_okq (⟨"RestBoundsModel", "comes", "(I)I"⟩, 25) := ⟨⟨by decide +kernel, by decide +kernel⟩, List.mem_of_getElem? (i := 454) (by decide +kernel), List.mem_of_getElem? (i := 575) (by decide +kernel), List.mem_of_getElem? (i := 576) (by decide +kernel)⟩
theorem lw_p11 : lw_okq (⟨"RestBoundsModel", "open", "(II)V"⟩, 25) := ⟨⟨by decide +kernel, by decide +kernel⟩, List.mem_of_getElem? (i := 454) (by decide +kernel), List.mem_of_getElem? (i := 579) (by decide +kernel), List.mem_of_getElem? (i := 580) (by decide +kernel)⟩
theorem lw_p12 : lw_okq (⟨"RestBoundsModel", "reach", "(I)I"⟩, 25) := ⟨⟨by decide +kernel, by decide +kernel⟩, List.mem_of_getElem? (i := 454) (by decide +kernel), List.mem_of_getElem? (i := 584) (by decide +kernel), List.mem_of_getElem? (i := 585) (by decide +kernel)⟩
theorem lw_p13 : lw_okq (⟨"RestBoundsModel", "look", "()V"⟩, 25) := ⟨⟨by decide +kernel, by decide +kernel⟩, List.mem_of_getElem? (i := 454) (by decide +kernel), List.mem_of_getElem? (i := 588) (by decide +kernel), List.mem_of_getElem? (i := 589) (by decide +kernel)⟩
theorem lw_p14 : lw_okq (⟨"RestBoundsModel", "goOn", "(II)Z"⟩, 25) := ⟨⟨by decide +kernel, by decide +kernel⟩, List.mem_of_getElem? (i := 454) (by decide +kernel), List.mem_of_getElem? (i := 596) (by decide +kernel), List.mem_of_getElem? (i := 597) (by decide +kernel)⟩
theorem lw_p15 : lw_okq (⟨"RestBoundsModel", "next", "(II)I"⟩, 25) := ⟨⟨by decide +kernel, by decide +kernel⟩, List.mem_of_getElem? (i := 454) (by decide +kernel), List.mem_of_getElem? (i := 600) (by decide +kernel), List.mem_of_getElem? (i := 601) (by decide +kernel)⟩
def lw_privs_1 : List (MethodName × Nat) := [(⟨"RestBounds", "forgetWhatRestsOnWalk", "()V"⟩, 7), (⟨"RestBounds", "goOnTimes", "(LRestBounds$Listing;II)I"⟩, 7), (⟨"RestBounds", "goOnOnce", "(LRestBounds$Listing;I)Z"⟩, 7), (⟨"RestBounds", "width", "(LRestBounds$Listing;I)J"⟩, 7), (⟨"RestBounds", "high", "(LRestBounds$Listing;I)J"⟩, 7), (⟨"RestBounds", "low", "(LRestBounds$Listing;I)J"⟩, 7), (⟨"RestBounds", "trialWidth", "(III)J"⟩, 7), (⟨"RestBoundsModel", "forget", "()V"⟩, 25), (⟨"RestBoundsModel", "isState", "(I)Z"⟩, 25), (⟨"RestBoundsModel", "arrowOf", "(II)I"⟩, 25), (⟨"RestBoundsModel", "comes", "(I)I"⟩, 25), (⟨"RestBoundsModel", "open", "(II)V"⟩, 25), (⟨"RestBoundsModel", "reach", "(I)I"⟩, 25), (⟨"RestBoundsModel", "look", "()V"⟩, 25), (⟨"RestBoundsModel", "goOn", "(II)Z"⟩, 25), (⟨"RestBoundsModel", "next", "(II)I"⟩, 25)]
theorem lw_r1 : ∀ q ∈ lw_privs_1, lw_okq q := List.forall_mem_cons.mpr ⟨lw_p0, List.forall_mem_cons.mpr ⟨lw_p1, List.forall_mem_cons.mpr ⟨lw_p2, List.forall_mem_cons.mpr ⟨lw_p3, List.forall_mem_cons.mpr ⟨lw_p4, List.forall_mem_cons.mpr ⟨lw_p5, List.forall_mem_cons.mpr ⟨lw_p6, List.forall_mem_cons.mpr ⟨lw_p7, List.forall_mem_cons.mpr ⟨lw_p8, List.forall_mem_cons.mpr ⟨lw_p9, List.forall_mem_cons.mpr ⟨lw_p10, List.forall_mem_cons.mpr ⟨lw_p11, List.forall_mem_cons.mpr ⟨lw_p12, List.forall_mem_cons.mpr ⟨lw_p13, List.forall_mem_cons.mpr ⟨lw_p14, List.forall_mem_cons.mpr ⟨lw_p15, fun _ h => absurd h List.not_mem_nil⟩⟩⟩⟩⟩⟩⟩⟩⟩⟩⟩⟩⟩⟩⟩⟩
theorem lw_p16 : lw_okq (⟨"RestBoundsModel", "lay", "(IIJ)V"⟩, 25) := ⟨⟨by decide +kernel, by decide +kernel⟩, List.mem_of_getElem? (i := 454) (by decide +kernel), List.mem_of_getElem? (i := 604) (by decide +kernel), List.mem_of_getElem? (i := 605) (by decide +kernel)⟩
theorem lw_p17 : lw_okq (⟨"RestBoundsModel", "share", "(IIJJJ)V"⟩, 25) := ⟨⟨by decide +kernel, by decide +kernel⟩, List.mem_of_getElem? (i := 454) (by decide +kernel), List.mem_of_getElem? (i := 610) (by decide +kernel), List.mem_of_getElem? (i := 611) (by decide +kernel)⟩
theorem lw_p18 : lw_okq (⟨"RestBoundsModel", "newItems", "(II)I"⟩, 25) := ⟨⟨by decide +kernel, by decide +kernel⟩, List.mem_of_getElem? (i := 454) (by decide +kernel), List.mem_of_getElem? (i := 614) (by decide +kernel), List.mem_of_getElem? (i := 615) (by decide +kernel)⟩
theorem lw_p19 : lw_okq (⟨"RestBoundsModel", "alike", "(IIII)I"⟩, 25) := ⟨⟨by decide +kernel, by decide +kernel⟩, List.mem_of_getElem? (i := 454) (by decide +kernel), List.mem_of_getElem? (i := 618) (by decide +kernel), List.mem_of_getElem? (i := 619) (by decide +kernel)⟩
theorem lw_p20 : lw_okq (⟨"RestBoundsModel", "high", "(II)J"⟩, 25) := ⟨⟨by decide +kernel, by decide +kernel⟩, List.mem_of_getElem? (i := 454) (by decide +kernel), List.mem_of_getElem? (i := 629) (by decide +kernel), List.mem_of_getElem? (i := 630) (by decide +kernel)⟩
theorem lw_p21 : lw_okq (⟨"RestBoundsModel", "foundOf", "(II)J"⟩, 25) := ⟨⟨by decide +kernel, by decide +kernel⟩, List.mem_of_getElem? (i := 454) (by decide +kernel), List.mem_of_getElem? (i := 633) (by decide +kernel), List.mem_of_getElem? (i := 634) (by decide +kernel)⟩
theorem lw_p22 : lw_okq (⟨"RestBoundsModel", "unended", "(II)J"⟩, 25) := ⟨⟨by decide +kernel, by decide +kernel⟩, List.mem_of_getElem? (i := 454) (by decide +kernel), List.mem_of_getElem? (i := 637) (by decide +kernel), List.mem_of_getElem? (i := 638) (by decide +kernel)⟩
theorem lw_p23 : lw_okq (⟨"RestBoundsModel", "low", "(II)J"⟩, 25) := ⟨⟨by decide +kernel, by decide +kernel⟩, List.mem_of_getElem? (i := 454) (by decide +kernel), List.mem_of_getElem? (i := 641) (by decide +kernel), List.mem_of_getElem? (i := 642) (by decide +kernel)⟩
theorem lw_p24 : lw_okq (⟨"RestBoundsModel", "isSure", "(I)Z"⟩, 25) := ⟨⟨by decide +kernel, by decide +kernel⟩, List.mem_of_getElem? (i := 454) (by decide +kernel), List.mem_of_getElem? (i := 645) (by decide +kernel), List.mem_of_getElem? (i := 646) (by decide +kernel)⟩
theorem lw_p25 : lw_okq (⟨"RestBoundsModel", "copy", "(II)V"⟩, 25) := ⟨⟨by decide +kernel, by decide +kernel⟩, List.mem_of_getElem? (i := 454) (by decide +kernel), List.mem_of_getElem? (i := 685) (by decide +kernel), List.mem_of_getElem? (i := 686) (by decide +kernel)⟩
def lw_privs_2 : List (MethodName × Nat) := [(⟨"RestBoundsModel", "lay", "(IIJ)V"⟩, 25), (⟨"RestBoundsModel", "share", "(IIJJJ)V"⟩, 25), (⟨"RestBoundsModel", "newItems", "(II)I"⟩, 25), (⟨"RestBoundsModel", "alike", "(IIII)I"⟩, 25), (⟨"RestBoundsModel", "high", "(II)J"⟩, 25), (⟨"RestBoundsModel", "foundOf", "(II)J"⟩, 25), (⟨"RestBoundsModel", "unended", "(II)J"⟩, 25), (⟨"RestBoundsModel", "low", "(II)J"⟩, 25), (⟨"RestBoundsModel", "isSure", "(I)Z"⟩, 25), (⟨"RestBoundsModel", "copy", "(II)V"⟩, 25)]
theorem lw_r2 : ∀ q ∈ lw_privs_2, lw_okq q := List.forall_mem_cons.mpr ⟨lw_p16, List.forall_mem_cons.mpr ⟨lw_p17, List.forall_mem_cons.mpr ⟨lw_p18, List.forall_mem_cons.mpr ⟨lw_p19, List.forall_mem_cons.mpr ⟨lw_p20, List.forall_mem_cons.mpr ⟨lw_p21, List.forall_mem_cons.mpr ⟨lw_p22, List.forall_mem_cons.mpr ⟨lw_p23, List.forall_mem_cons.mpr ⟨lw_p24, List.forall_mem_cons.mpr ⟨lw_p25, fun _ h => absurd h List.not_mem_nil⟩⟩⟩⟩⟩⟩⟩⟩⟩⟩
def lw_privs : List (MethodName × Nat) := lw_privs_1 ++ (lw_privs_2)
def lw_tbl : List Cond := k2_sels lw_privs ++ tables_1
theorem lw_privs_ok : ∀ q ∈ lw_privs, lw_okq q := by
  show ∀ q ∈ lw_privs_1 ++ (lw_privs_2), lw_okq q
  exact List.forall_mem_append.mpr ⟨lw_r1, lw_r2⟩
end
section
/-! The words in which a method's rows are printed: a method, its instructions with the place behind them -/
/-- a method: name, bytes, number of locals, kind of answer, own class, frames and words of locals that its calls need -/
abbrev Mth : Type := MethodName × ByteArray × Nat × Option FieldType × String × Nat × Nat
def dk (μ : Mth) (pc : Nat) (i : Instr) (n npc : Nat) : Prop := decode μ.2.1 pc = .ok (i, n) ∧ npc = pc + n
def dKi (μ : Mth) (pc : Nat) (v : Int32) (npc : Nat) : Prop := (∃ n : Int, decode μ.2.1 pc = .ok (.iconst n, 1) ∧ Int32.ofInt n = v ∧ npc = pc + 1) ∨ (∃ n : Int, decode μ.2.1 pc = .ok (.bipush n, 2) ∧ (Int8.ofInt n).toInt32 = v ∧ npc = pc + 2) ∨ (∃ n : Int, decode μ.2.1 pc = .ok (.sipush n, 3) ∧ (Int16.ofInt n).toInt32 = v ∧ npc = pc + 3) ∨ (∃ ix : Nat, decode μ.2.1 pc = .ok (.ldc ix, 2) ∧ Cond.constant μ.2.2.2.2.1 ix v ∈ lw_tbl ∧ npc = pc + 2)
def dKl (μ : Mth) (pc : Nat) (v : Int64) (npc : Nat) : Prop := (∃ n : Fin 2, decode μ.2.1 pc = .ok (.lconst n, 1) ∧ Int64.ofNat n.val = v ∧ npc = pc + 1) ∨ (∃ ix : Nat, decode μ.2.1 pc = .ok (.ldc2_w ix, 3) ∧ Cond.constantLong μ.2.2.2.2.1 ix v ∈ lw_tbl ∧ npc = pc + 3)
def dIl (μ : Mth) (pc i npc : Nat) : Prop := (∃ k : Fin 4, decode μ.2.1 pc = .ok (.iload_n k, 1) ∧ k.val = i ∧ npc = pc + 1) ∨ (decode μ.2.1 pc = .ok (.iload i, 2) ∧ npc = pc + 2)
def dLl (μ : Mth) (pc i npc : Nat) : Prop := (∃ k : Fin 4, decode μ.2.1 pc = .ok (.lload_n k, 1) ∧ k.val = i ∧ npc = pc + 1) ∨ (decode μ.2.1 pc = .ok (.lload i, 2) ∧ npc = pc + 2)
def dAl (μ : Mth) (pc i npc : Nat) : Prop := (∃ k : Fin 4, decode μ.2.1 pc = .ok (.aload_n k, 1) ∧ k.val = i ∧ npc = pc + 1) ∨ (decode μ.2.1 pc = .ok (.aload i, 2) ∧ npc = pc + 2)
def dIs (μ : Mth) (pc i npc : Nat) : Prop := ((∃ k : Fin 4, decode μ.2.1 pc = .ok (.istore_n k, 1) ∧ k.val = i ∧ npc = pc + 1) ∨ (decode μ.2.1 pc = .ok (.istore i, 2) ∧ npc = pc + 2)) ∧ i < μ.2.2.1
def dLs (μ : Mth) (pc i npc : Nat) : Prop := ((∃ k : Fin 4, decode μ.2.1 pc = .ok (.lstore_n k, 1) ∧ k.val = i ∧ npc = pc + 1) ∨ (decode μ.2.1 pc = .ok (.lstore i, 2) ∧ npc = pc + 2)) ∧ i + 1 < μ.2.2.1
def dAs (μ : Mth) (pc i npc : Nat) : Prop := ((∃ k : Fin 4, decode μ.2.1 pc = .ok (.astore_n k, 1) ∧ k.val = i ∧ npc = pc + 1) ∨ (decode μ.2.1 pc = .ok (.astore i, 2) ∧ npc = pc + 2)) ∧ i < μ.2.2.1
def dIn (μ : Mth) (pc i : Nat) (k : Int32) (npc : Nat) : Prop := ∃ n : Int, decode μ.2.1 pc = .ok (.iinc i n, 3) ∧ Int32.ofInt n = k ∧ npc = pc + 3 ∧ i < μ.2.2.1
def dJ (μ : Mth) (pc tgt : Nat) : Prop := ∃ off : Int, decode μ.2.1 pc = .ok (.goto off, 3) ∧ (pc : Int) + off = (tgt : Int)
def dC (μ : Mth) (pc : Nat) (k : Jvm.ClassFile.Cond) (npc tgt : Nat) : Prop := ∃ off : Int, decode μ.2.1 pc = .ok (.if_icmp k off, 3) ∧ (pc : Int) + off = (tgt : Int) ∧ npc = pc + 3
def dZ (μ : Mth) (pc : Nat) (k : Jvm.ClassFile.Cond) (npc tgt : Nat) : Prop := ∃ off : Int, decode μ.2.1 pc = .ok (.ifCond k off, 3) ∧ (pc : Int) + off = (tgt : Int) ∧ npc = pc + 3
/-- the classes, by number -/
def dW (w : Cond) : Prop := w ∈ lw_tbl
theorem dW_at {w : Cond} (i : Nat) (h : lw_tbl[i]? = some w) : dW w := List.mem_of_getElem? h
end
section
/-! printed by wip/whole/gen.py: classes, fields, methods, a row an instruction -/
def RX0 : String := "RestBounds$Listing"
def TX0 : u_T := fun k => match k with
  | 0 => ("RestBounds$Listing", "start", "I", false)
  | 1 => ("RestBounds$Listing", "steps", "I", false)
  | 2 => ("RestBounds$Listing", "size", "I", false)
  | 3 => ("RestBounds$Listing", "place", "[I", true)
  | 4 => ("RestBounds$Listing", "depth", "[I", true)
  | 5 => ("RestBounds$Listing", "amount", "[J", true)
  | 6 => ("RestBounds$Listing", "ended", "[J", true)
  | 7 => ("RestBounds$Listing", "left", "[J", true)
  | _ => ("RestBounds$Listing", "held", "[J", true)
def tyX0 : Nat → FieldType := fun k => match k with
  | 0 => .int
  | 1 => .int
  | 2 => .int
  | 3 => .array (.int)
  | 4 => .array (.int)
  | 5 => .array (.long)
  | 6 => .array (.long)
  | 7 => .array (.long)
  | _ => .array (.long)
def RX1 : String := "RestBounds$Shares"
def TX1 : u_T := fun k => match k with
  | 0 => ("RestBounds$Shares", "size", "I", false)
  | 1 => ("RestBounds$Shares", "sum", "J", false)
  | 2 => ("RestBounds$Shares", "shared", "J", false)
  | 3 => ("RestBounds$Shares", "divisor", "I", false)
  | 4 => ("RestBounds$Shares", "place", "[I", true)
  | 5 => ("RestBounds$Shares", "depth", "[I", true)
  | _ => ("RestBounds$Shares", "amount", "[J", true)
def tyX1 : Nat → FieldType := fun k => match k with
  | 0 => .int
  | 1 => .long
  | 2 => .long
  | 3 => .int
  | 4 => .array (.int)
  | 5 => .array (.int)
  | _ => .array (.long)
def RX2 : String := "RestBounds$Walk"
def TX2 : u_T := fun k => match k with
  | 0 => ("RestBounds$Walk", "size", "I", false)
  | 1 => ("RestBounds$Walk", "outcomeOf", "[I", true)
  | 2 => ("RestBounds$Walk", "lawOf", "[I", true)
  | 3 => ("RestBounds$Walk", "total", "[I", true)
  | 4 => ("RestBounds$Walk", "arrows", "[I", true)
  | 5 => ("RestBounds$Walk", "target", "[[I", true)
  | 6 => ("RestBounds$Walk", "weight", "[[I", true)
  | 7 => ("RestBounds$Walk", "comesTo", "[I", true)
  | 8 => ("RestBounds$Walk", "reach", "[I", true)
  | _ => ("RestBounds$Walk", "sure", "[Z", true)
def tyX2 : Nat → FieldType := fun k => match k with
  | 0 => .int
  | 1 => .array (.int)
  | 2 => .array (.int)
  | 3 => .array (.int)
  | 4 => .array (.int)
  | 5 => .array (.array (.int))
  | 6 => .array (.array (.int))
  | 7 => .array (.int)
  | 8 => .array (.int)
  | _ => .array (.boolean)
def RX3 : String := "RestBounds"
def TX3 : u_T := fun k => match k with
  | 0 => ("RestBounds", "walk", "LRestBounds$Walk;", true)
  | 1 => ("RestBounds", "shares", "LRestBounds$Shares;", true)
  | 2 => ("RestBounds", "now", "LRestBounds$Listing;", true)
  | 3 => ("RestBounds", "trial", "LRestBounds$Listing;", true)
  | 4 => ("RestBounds", "kept", "[LRestBounds$Listing;", true)
  | 5 => ("RestBounds", "ordering", "I", false)
  | _ => ("RestBounds", "joining", "Z", false)
def tyX3 : Nat → FieldType := fun k => match k with
  | 0 => .object "RestBounds$Walk"
  | 1 => .object "RestBounds$Shares"
  | 2 => .object "RestBounds$Listing"
  | 3 => .object "RestBounds$Listing"
  | 4 => .array (.object "RestBounds$Listing")
  | 5 => .int
  | _ => .boolean
def RX4 : String := "RestBoundsModel"
def TX4 : u_T := fun k => match k with
  | 0 => ("RestBoundsModel", "states", "I", false)
  | 1 => ("RestBoundsModel", "outcome", "[I", true)
  | 2 => ("RestBoundsModel", "arrows", "[I", true)
  | 3 => ("RestBoundsModel", "arrowTo", "[I", true)
  | 4 => ("RestBoundsModel", "sixteenths", "[I", true)
  | 5 => ("RestBoundsModel", "sum", "[I", true)
  | 6 => ("RestBoundsModel", "law", "[I", true)
  | 7 => ("RestBoundsModel", "order", "I", false)
  | 8 => ("RestBoundsModel", "joins", "Z", false)
  | 9 => ("RestBoundsModel", "is", "[Z", true)
  | 10 => ("RestBoundsModel", "start", "[I", true)
  | 11 => ("RestBoundsModel", "went", "[I", true)
  | 12 => ("RestBoundsModel", "many", "[I", true)
  | 13 => ("RestBoundsModel", "itemState", "[I", true)
  | 14 => ("RestBoundsModel", "itemDepth", "[I", true)
  | 15 => ("RestBoundsModel", "itemUnits", "[J", true)
  | 16 => ("RestBoundsModel", "found", "[J", true)
  | 17 => ("RestBoundsModel", "rest", "[J", true)
  | 18 => ("RestBoundsModel", "isLooked", "Z", false)
  | 19 => ("RestBoundsModel", "reaches", "[I", true)
  | 20 => ("RestBoundsModel", "sure", "[Z", true)
  | 21 => ("RestBoundsModel", "shares", "I", false)
  | 22 => ("RestBoundsModel", "shareState", "[I", true)
  | 23 => ("RestBoundsModel", "shareDepth", "[I", true)
  | _ => ("RestBoundsModel", "shareUnits", "[J", true)
def tyX4 : Nat → FieldType := fun k => match k with
  | 0 => .int
  | 1 => .array (.int)
  | 2 => .array (.int)
  | 3 => .array (.int)
  | 4 => .array (.int)
  | 5 => .array (.int)
  | 6 => .array (.int)
  | 7 => .int
  | 8 => .boolean
  | 9 => .array (.boolean)
  | 10 => .array (.int)
  | 11 => .array (.int)
  | 12 => .array (.int)
  | 13 => .array (.int)
  | 14 => .array (.int)
  | 15 => .array (.long)
  | 16 => .array (.long)
  | 17 => .array (.long)
  | 18 => .boolean
  | 19 => .array (.int)
  | 20 => .array (.boolean)
  | 21 => .int
  | 22 => .array (.int)
  | 23 => .array (.int)
  | _ => .array (.long)
abbrev vwCl : List vw_C := [(RX0, TX0, 9), (RX1, TX1, 7), (RX2, TX2, 10), (RX3, TX3, 7), (RX4, TX4, 25)]
def RJ10 : String := "java/lang/System"
def RJ7 : String := "java/util/Arrays"
def RJ9 : String := "java/lang/Math"
def RL : String := "RestBoundsLaw"
abbrev cX0_init : ByteArray := prog_2_method_1_code
def yX0_init : MethodName := ⟨RX0, "<init>", "()V"⟩
abbrev mX0_init : Mth := (yX0_init, cX0_init, 1, none, RX0, 1, 20)
abbrev cX0_exists : ByteArray := prog_2_method_2_code
def yX0_exists : MethodName := ⟨RX0, "exists", "()Z"⟩
abbrev mX0_exists : Mth := (yX0_exists, cX0_exists, 1, (some .boolean), RX0, 0, 0)
abbrev cX0_hasItem : ByteArray := prog_2_method_3_code
def yX0_hasItem : MethodName := ⟨RX0, "hasItem", "(I)Z"⟩
abbrev mX0_hasItem : Mth := (yX0_hasItem, cX0_hasItem, 2, (some .boolean), RX0, 0, 0)
abbrev cX0_forget : ByteArray := prog_2_method_4_code
def yX0_forget : MethodName := ⟨RX0, "forget", "()V"⟩
abbrev mX0_forget : Mth := (yX0_forget, cX0_forget, 1, none, RX0, 0, 0)
abbrev cX0_beginAt : ByteArray := prog_2_method_5_code
def yX0_beginAt : MethodName := ⟨RX0, "beginAt", "(I)V"⟩
abbrev mX0_beginAt : Mth := (yX0_beginAt, cX0_beginAt, 2, none, RX0, 1, 24)
abbrev cX0_copyFrom : ByteArray := prog_2_method_6_code
def yX0_copyFrom : MethodName := ⟨RX0, "copyFrom", "(LRestBounds$Listing;)V"⟩
abbrev mX0_copyFrom : Mth := (yX0_copyFrom, cX0_copyFrom, 2, none, RX0, 1, 27)
abbrev cX0_nextBy : ByteArray := prog_2_method_7_code
def yX0_nextBy : MethodName := ⟨RX0, "nextBy", "(I)I"⟩
abbrev mX0_nextBy : Mth := (yX0_nextBy, cX0_nextBy, 4, (some .int), RX0, 0, 0)
abbrev cX0_addItem : ByteArray := prog_2_method_8_code
def yX0_addItem : MethodName := ⟨RX0, "addItem", "(IIJ)V"⟩
abbrev mX0_addItem : Mth := (yX0_addItem, cX0_addItem, 5, none, RX0, 0, 0)
abbrev cX0_takeOut : ByteArray := prog_2_method_9_code
def yX0_takeOut : MethodName := ⟨RX0, "takeOut", "(I)V"⟩
abbrev mX0_takeOut : Mth := (yX0_takeOut, cX0_takeOut, 3, none, RX0, 1, 27)
abbrev cX0_addEnded : ByteArray := prog_2_method_10_code
def yX0_addEnded : MethodName := ⟨RX0, "addEnded", "(IJ)V"⟩
abbrev mX0_addEnded : Mth := (yX0_addEnded, cX0_addEnded, 4, none, RX0, 0, 0)
abbrev cX0_addLeft : ByteArray := prog_2_method_11_code
def yX0_addLeft : MethodName := ⟨RX0, "addLeft", "(IJ)V"⟩
abbrev mX0_addLeft : Mth := (yX0_addLeft, cX0_addLeft, 4, none, RX0, 0, 0)
abbrev cX0_itemAt : ByteArray := prog_2_method_12_code
def yX0_itemAt : MethodName := ⟨RX0, "itemAt", "(II)I"⟩
abbrev mX0_itemAt : Mth := (yX0_itemAt, cX0_itemAt, 4, (some .int), RX0, 0, 0)
abbrev cX0_countNew : ByteArray := prog_2_method_13_code
def yX0_countNew : MethodName := ⟨RX0, "countNew", "(LRestBounds$Shares;Z)I"⟩
abbrev mX0_countNew : Mth := (yX0_countNew, cX0_countNew, 5, (some .int), RX0, 1, 23)
abbrev cX0_putShares : ByteArray := prog_2_method_14_code
def yX0_putShares : MethodName := ⟨RX0, "putShares", "(LRestBounds$Shares;Z)V"⟩
abbrev mX0_putShares : Mth := (yX0_putShares, cX0_putShares, 6, none, RX0, 1, 24)
abbrev cX0_endedIn : ByteArray := prog_2_method_15_code
def yX0_endedIn : MethodName := ⟨RX0, "endedIn", "(I)J"⟩
abbrev mX0_endedIn : Mth := (yX0_endedIn, cX0_endedIn, 5, (some .long), RX0, 0, 0)
abbrev cX1_init : ByteArray := prog_3_method_1_code
def yX1_init : MethodName := ⟨RX1, "<init>", "()V"⟩
abbrev mX1_init : Mth := (yX1_init, cX1_init, 1, none, RX1, 1, 20)
abbrev cX1_divide : ByteArray := prog_3_method_2_code
def yX1_divide : MethodName := ⟨RX1, "divide", "(LRestBounds$Walk;IIJ)V"⟩
abbrev mX1_divide : Mth := (yX1_divide, cX1_divide, 8, none, RX1, 2, 50)
abbrev cX1_spread : ByteArray := prog_3_method_3_code
def yX1_spread : MethodName := ⟨RX1, "spread", "(LRestBounds$Walk;IIII)V"⟩
abbrev mX1_spread : Mth := (yX1_spread, cX1_spread, 7, none, RX1, 1, 24)
abbrev cX1_portion : ByteArray := prog_3_method_4_code
def yX1_portion : MethodName := ⟨RX1, "portion", "(I)J"⟩
abbrev mX1_portion : Mth := (yX1_portion, cX1_portion, 2, (some .long), RX1, 0, 0)
abbrev cX1_add : ByteArray := prog_3_method_5_code
def yX1_add : MethodName := ⟨RX1, "add", "(IIJ)V"⟩
abbrev mX1_add : Mth := (yX1_add, cX1_add, 5, none, RX1, 0, 0)
abbrev cX1_isRepeated : ByteArray := prog_3_method_6_code
def yX1_isRepeated : MethodName := ⟨RX1, "isRepeated", "(I)Z"⟩
abbrev mX1_isRepeated : Mth := (yX1_isRepeated, cX1_isRepeated, 3, (some .boolean), RX1, 0, 0)
abbrev cX2_init : ByteArray := prog_4_method_1_code
def yX2_init : MethodName := ⟨RX2, "<init>", "()V"⟩
abbrev mX2_init : Mth := (yX2_init, cX2_init, 1, none, RX2, 1, 20)
abbrev cX2_has : ByteArray := prog_4_method_2_code
def yX2_has : MethodName := ⟨RX2, "has", "(I)Z"⟩
abbrev mX2_has : Mth := (yX2_has, cX2_has, 2, (some .boolean), RX2, 0, 0)
abbrev cX2_goesOn : ByteArray := prog_4_method_3_code
def yX2_goesOn : MethodName := ⟨RX2, "goesOn", "(I)Z"⟩
abbrev mX2_goesOn : Mth := (yX2_goesOn, cX2_goesOn, 2, (some .boolean), RX2, 1, 21)
abbrev cX2_addState : ByteArray := prog_4_method_4_code
def yX2_addState : MethodName := ⟨RX2, "addState", "(I)I"⟩
abbrev mX2_addState : Mth := (yX2_addState, cX2_addState, 2, (some .int), RX2, 0, 0)
abbrev cX2_addSixteenths : ByteArray := prog_4_method_5_code
def yX2_addSixteenths : MethodName := ⟨RX2, "addSixteenths", "(III)I"⟩
abbrev mX2_addSixteenths : Mth := (yX2_addSixteenths, cX2_addSixteenths, 5, (some .int), RX2, 1, 23)
abbrev cX2_arrowTo : ByteArray := prog_4_method_6_code
def yX2_arrowTo : MethodName := ⟨RX2, "arrowTo", "(II)I"⟩
abbrev mX2_arrowTo : Mth := (yX2_arrowTo, cX2_arrowTo, 4, (some .int), RX2, 0, 0)
abbrev cX2_sixteenthsTo : ByteArray := prog_4_method_7_code
def yX2_sixteenthsTo : MethodName := ⟨RX2, "sixteenthsTo", "(II)I"⟩
abbrev mX2_sixteenthsTo : Mth := (yX2_sixteenthsTo, cX2_sixteenthsTo, 4, (some .int), RX2, 1, 23)
abbrev cX2_isWhole : ByteArray := prog_4_method_8_code
def yX2_isWhole : MethodName := ⟨RX2, "isWhole", "(I)Z"⟩
abbrev mX2_isWhole : Mth := (yX2_isWhole, cX2_isWhole, 2, (some .boolean), RX2, 0, 0)
abbrev cX2_isProved : ByteArray := prog_4_method_9_code
def yX2_isProved : MethodName := ⟨RX2, "isProved", "(II)Z"⟩
abbrev mX2_isProved : Mth := (yX2_isProved, cX2_isProved, 3, (some .boolean), RX2, 3, 70)
abbrev cX2_isLoop : ByteArray := prog_4_method_10_code
def yX2_isLoop : MethodName := ⟨RX2, "isLoop", "(I)Z"⟩
abbrev mX2_isLoop : Mth := (yX2_isLoop, cX2_isLoop, 3, (some .boolean), RX2, 2, 46)
abbrev cX2_isRing : ByteArray := prog_4_method_11_code
def yX2_isRing : MethodName := ⟨RX2, "isRing", "(II)Z"⟩
abbrev mX2_isRing : Mth := (yX2_isRing, cX2_isRing, 5, (some .boolean), RX2, 2, 46)
abbrev cX2_forgetLaws : ByteArray := prog_4_method_12_code
def yX2_forgetLaws : MethodName := ⟨RX2, "forgetLaws", "()V"⟩
abbrev mX2_forgetLaws : Mth := (yX2_forgetLaws, cX2_forgetLaws, 1, none, RX2, 1, 23)
abbrev cX2_survey : ByteArray := prog_4_method_13_code
def yX2_survey : MethodName := ⟨RX2, "survey", "()V"⟩
abbrev mX2_survey : Mth := (yX2_survey, cX2_survey, 2, none, RX2, 3, 65)
abbrev cX2_findComings : ByteArray := prog_4_method_14_code
def yX2_findComings : MethodName := ⟨RX2, "findComings", "()V"⟩
abbrev mX2_findComings : Mth := (yX2_findComings, cX2_findComings, 3, none, RX2, 1, 22)
abbrev cX2_comes : ByteArray := prog_4_method_15_code
def yX2_comes : MethodName := ⟨RX2, "comes", "(II)Z"⟩
abbrev mX2_comes : Mth := (yX2_comes, cX2_comes, 3, (some .boolean), RX2, 0, 0)
abbrev cX2_findReach : ByteArray := prog_4_method_16_code
def yX2_findReach : MethodName := ⟨RX2, "findReach", "(I)I"⟩
abbrev mX2_findReach : Mth := (yX2_findReach, cX2_findReach, 4, (some .int), RX2, 2, 42)
abbrev cX2_findSure : ByteArray := prog_4_method_17_code
def yX2_findSure : MethodName := ⟨RX2, "findSure", "(I)Z"⟩
abbrev mX2_findSure : Mth := (yX2_findSure, cX2_findSure, 3, (some .boolean), RX2, 1, 22)
abbrev cX2_isWholeFrom : ByteArray := prog_4_method_18_code
def yX2_isWholeFrom : MethodName := ⟨RX2, "isWholeFrom", "(I)Z"⟩
abbrev mX2_isWholeFrom : Mth := (yX2_isWholeFrom, cX2_isWholeFrom, 3, (some .boolean), RX2, 2, 42)
abbrev cX2_endsWithin : ByteArray := prog_4_method_19_code
def yX2_endsWithin : MethodName := ⟨RX2, "endsWithin", "(II)Z"⟩
abbrev mX2_endsWithin : Mth := (yX2_endsWithin, cX2_endsWithin, 3, (some .boolean), RX2, 0, 0)
abbrev cX3_init : ByteArray := prog_1_method_1_code
def yX3_init : MethodName := ⟨RX3, "<init>", "()V"⟩
abbrev mX3_init : Mth := (yX3_init, cX3_init, 2, none, RX3, 2, 40)
abbrev cX3_state : ByteArray := prog_1_method_2_code
def yX3_state : MethodName := ⟨RX3, "state", "(I)I"⟩
abbrev mX3_state : Mth := (yX3_state, cX3_state, 2, (some .int), RX3, 3, 64)
abbrev cX3_arrow : ByteArray := prog_1_method_3_code
def yX3_arrow : MethodName := ⟨RX3, "arrow", "(III)I"⟩
abbrev mX3_arrow : Mth := (yX3_arrow, cX3_arrow, 4, (some .int), RX3, 3, 64)
abbrev cX3_law : ByteArray := prog_1_method_4_code
def yX3_law : MethodName := ⟨RX3, "law", "(II)I"⟩
abbrev mX3_law : Mth := (yX3_law, cX3_law, 3, (some .int), RX3, 4, 92)
abbrev cX3_order : ByteArray := prog_1_method_5_code
def yX3_order : MethodName := ⟨RX3, "order", "(I)I"⟩
abbrev mX3_order : Mth := (yX3_order, cX3_order, 3, (some .int), RX3, 0, 0)
abbrev cX3_joined : ByteArray := prog_1_method_6_code
def yX3_joined : MethodName := ⟨RX3, "joined", "(Z)I"⟩
abbrev mX3_joined : Mth := (yX3_joined, cX3_joined, 3, (some .int), RX3, 0, 0)
abbrev cX3_begin : ByteArray := prog_1_method_7_code
def yX3_begin : MethodName := ⟨RX3, "begin", "(I)I"⟩
abbrev mX3_begin : Mth := (yX3_begin, cX3_begin, 2, (some .int), RX3, 4, 86)
abbrev cX3_grow : ByteArray := prog_1_method_8_code
def yX3_grow : MethodName := ⟨RX3, "grow", "(I)I"⟩
abbrev mX3_grow : Mth := (yX3_grow, cX3_grow, 2, (some .int), RX3, 5, 127)
abbrev cX3_until : ByteArray := prog_1_method_9_code
def yX3_until : MethodName := ⟨RX3, "until", "(III)I"⟩
abbrev mX3_until : Mth := (yX3_until, cX3_until, 7, (some .int), RX3, 4, 103)
abbrev cX3_end : ByteArray := prog_1_method_10_code
def yX3_end : MethodName := ⟨RX3, "end", "(II)J"⟩
abbrev mX3_end : Mth := (yX3_end, cX3_end, 3, (some .long), RX3, 2, 49)
abbrev cX3_given : ByteArray := prog_1_method_11_code
def yX3_given : MethodName := ⟨RX3, "given", "(III)I"⟩
abbrev mX3_given : Mth := (yX3_given, cX3_given, 6, (some .int), RX3, 2, 53)
abbrev cX3_best : ByteArray := prog_1_method_12_code
def yX3_best : MethodName := ⟨RX3, "best", "(II)I"⟩
abbrev mX3_best : Mth := (yX3_best, cX3_best, 9, (some .int), RX3, 6, 150)
abbrev cX3_item : ByteArray := prog_1_method_13_code
def yX3_item : MethodName := ⟨RX3, "item", "(II)I"⟩
abbrev mX3_item : Mth := (yX3_item, cX3_item, 3, (some .int), RX3, 1, 21)
abbrev cX3_units : ByteArray := prog_1_method_14_code
def yX3_units : MethodName := ⟨RX3, "units", "(I)J"⟩
abbrev mX3_units : Mth := (yX3_units, cX3_units, 2, (some .long), RX3, 1, 21)
abbrev cX3_found : ByteArray := prog_1_method_15_code
def yX3_found : MethodName := ⟨RX3, "found", "(I)J"⟩
abbrev mX3_found : Mth := (yX3_found, cX3_found, 2, (some .long), RX3, 1, 20)
abbrev cX3_rests : ByteArray := prog_1_method_16_code
def yX3_rests : MethodName := ⟨RX3, "rests", "(I)J"⟩
abbrev mX3_rests : Mth := (yX3_rests, cX3_rests, 2, (some .long), RX3, 1, 21)
abbrev cX3_save : ByteArray := prog_1_method_17_code
def yX3_save : MethodName := ⟨RX3, "save", "(I)I"⟩
abbrev mX3_save : Mth := (yX3_save, cX3_save, 2, (some .int), RX3, 2, 48)
abbrev cX3_back : ByteArray := prog_1_method_18_code
def yX3_back : MethodName := ⟨RX3, "back", "(I)I"⟩
abbrev mX3_back : Mth := (yX3_back, cX3_back, 2, (some .int), RX3, 2, 48)
abbrev cX3_told : ByteArray := prog_1_method_19_code
def yX3_told : MethodName := ⟨RX3, "told", "(I)I"⟩
abbrev mX3_told : Mth := (yX3_told, cX3_told, 2, (some .int), RX3, 1, 21)
abbrev cX3_isOutcome : ByteArray := prog_1_method_20_code
def yX3_isOutcome : MethodName := ⟨RX3, "isOutcome", "(I)Z"⟩
abbrev mX3_isOutcome : Mth := (yX3_isOutcome, cX3_isOutcome, 1, (some .boolean), RX3, 0, 0)
abbrev cX3_isSet : ByteArray := prog_1_method_21_code
def yX3_isSet : MethodName := ⟨RX3, "isSet", "(I)Z"⟩
abbrev mX3_isSet : Mth := (yX3_isSet, cX3_isSet, 1, (some .boolean), RX3, 0, 0)
abbrev cX3_isSide : ByteArray := prog_1_method_22_code
def yX3_isSide : MethodName := ⟨RX3, "isSide", "(I)Z"⟩
abbrev mX3_isSide : Mth := (yX3_isSide, cX3_isSide, 1, (some .boolean), RX3, 0, 0)
abbrev cX3_isSave : ByteArray := prog_1_method_23_code
def yX3_isSave : MethodName := ⟨RX3, "isSave", "(I)Z"⟩
abbrev mX3_isSave : Mth := (yX3_isSave, cX3_isSave, 1, (some .boolean), RX3, 0, 0)
abbrev cX3_forgetWhatRestsOnWalk : ByteArray := prog_1_method_24_code
def yX3_forgetWhatRestsOnWalk : MethodName := ⟨RX3, "forgetWhatRestsOnWalk", "()V"⟩
abbrev mX3_forgetWhatRestsOnWalk : Mth := (yX3_forgetWhatRestsOnWalk, cX3_forgetWhatRestsOnWalk, 2, none, RX3, 2, 43)
abbrev cX3_goOnTimes : ByteArray := prog_1_method_25_code
def yX3_goOnTimes : MethodName := ⟨RX3, "goOnTimes", "(LRestBounds$Listing;II)I"⟩
abbrev mX3_goOnTimes : Mth := (yX3_goOnTimes, cX3_goOnTimes, 5, (some .int), RX3, 4, 103)
abbrev cX3_goOnOnce : ByteArray := prog_1_method_26_code
def yX3_goOnOnce : MethodName := ⟨RX3, "goOnOnce", "(LRestBounds$Listing;I)Z"⟩
abbrev mX3_goOnOnce : Mth := (yX3_goOnOnce, cX3_goOnOnce, 7, (some .boolean), RX3, 3, 77)
abbrev cX3_low : ByteArray := prog_1_method_27_code
def yX3_low : MethodName := ⟨RX3, "low", "(LRestBounds$Listing;I)J"⟩
abbrev mX3_low : Mth := (yX3_low, cX3_low, 6, (some .long), RX3, 1, 24)
abbrev cX3_high : ByteArray := prog_1_method_28_code
def yX3_high : MethodName := ⟨RX3, "high", "(LRestBounds$Listing;I)J"⟩
abbrev mX3_high : Mth := (yX3_high, cX3_high, 6, (some .long), RX3, 1, 24)
abbrev cX3_width : ByteArray := prog_1_method_29_code
def yX3_width : MethodName := ⟨RX3, "width", "(LRestBounds$Listing;I)J"⟩
abbrev mX3_width : Mth := (yX3_width, cX3_width, 3, (some .long), RX3, 2, 49)
abbrev cX3_trialWidth : ByteArray := prog_1_method_30_code
def yX3_trialWidth : MethodName := ⟨RX3, "trialWidth", "(III)J"⟩
abbrev mX3_trialWidth : Mth := (yX3_trialWidth, cX3_trialWidth, 4, (some .long), RX3, 5, 127)
abbrev cX3_leastPart : ByteArray := prog_1_method_31_code
def yX3_leastPart : MethodName := ⟨RX3, "leastPart", "(JJ)I"⟩
abbrev mX3_leastPart : Mth := (yX3_leastPart, cX3_leastPart, 6, (some .int), RX3, 1, 28)
abbrev cX3_greatestPart : ByteArray := prog_1_method_32_code
def yX3_greatestPart : MethodName := ⟨RX3, "greatestPart", "(JJ)I"⟩
abbrev mX3_greatestPart : Mth := (yX3_greatestPart, cX3_greatestPart, 6, (some .int), RX3, 1, 28)
abbrev cX3_partOf : ByteArray := prog_1_method_33_code
def yX3_partOf : MethodName := ⟨RX3, "partOf", "(JJZ)I"⟩
abbrev mX3_partOf : Mth := (yX3_partOf, cX3_partOf, 9, (some .int), RX3, 0, 0)
abbrev cX4_init : ByteArray := prog_6_method_1_code
def yX4_init : MethodName := ⟨RX4, "<init>", "()V"⟩
abbrev mX4_init : Mth := (yX4_init, cX4_init, 1, none, RX4, 1, 20)
abbrev cX4_in : ByteArray := prog_6_method_2_code
def yX4_in : MethodName := ⟨RX4, "in", "(III)Z"⟩
abbrev mX4_in : Mth := (yX4_in, cX4_in, 3, (some .boolean), RX4, 0, 0)
abbrev cX4_isState : ByteArray := prog_6_method_3_code
def yX4_isState : MethodName := ⟨RX4, "isState", "(I)Z"⟩
abbrev mX4_isState : Mth := (yX4_isState, cX4_isState, 2, (some .boolean), RX4, 1, 22)
abbrev cX4_forget : ByteArray := prog_6_method_4_code
def yX4_forget : MethodName := ⟨RX4, "forget", "()V"⟩
abbrev mX4_forget : Mth := (yX4_forget, cX4_forget, 2, none, RX4, 0, 0)
abbrev cX4_state : ByteArray := prog_6_method_5_code
def yX4_state : MethodName := ⟨RX4, "state", "(I)I"⟩
abbrev mX4_state : Mth := (yX4_state, cX4_state, 2, (some .int), RX4, 1, 22)
abbrev cX4_arrowOf : ByteArray := prog_6_method_6_code
def yX4_arrowOf : MethodName := ⟨RX4, "arrowOf", "(II)I"⟩
abbrev mX4_arrowOf : Mth := (yX4_arrowOf, cX4_arrowOf, 4, (some .int), RX4, 0, 0)
abbrev cX4_arrow : ByteArray := prog_6_method_7_code
def yX4_arrow : MethodName := ⟨RX4, "arrow", "(III)I"⟩
abbrev mX4_arrow : Mth := (yX4_arrow, cX4_arrow, 5, (some .int), RX4, 2, 43)
abbrev cX4_law : ByteArray := prog_6_method_8_code
def yX4_law : MethodName := ⟨RX4, "law", "(II)I"⟩
abbrev mX4_law : Mth := (yX4_law, cX4_law, 6, (some .int), RX4, 2, 43)
abbrev cX4_order : ByteArray := prog_6_method_9_code
def yX4_order : MethodName := ⟨RX4, "order", "(I)I"⟩
abbrev mX4_order : Mth := (yX4_order, cX4_order, 3, (some .int), RX4, 1, 22)
abbrev cX4_joined : ByteArray := prog_6_method_10_code
def yX4_joined : MethodName := ⟨RX4, "joined", "(Z)I"⟩
abbrev mX4_joined : Mth := (yX4_joined, cX4_joined, 3, (some .int), RX4, 0, 0)
abbrev cX4_comes : ByteArray := prog_6_method_11_code
def yX4_comes : MethodName := ⟨RX4, "comes", "(I)I"⟩
abbrev mX4_comes : Mth := (yX4_comes, cX4_comes, 6, (some .int), RX4, 0, 0)
abbrev cX4_look : ByteArray := prog_6_method_12_code
def yX4_look : MethodName := ⟨RX4, "look", "()V"⟩
abbrev mX4_look : Mth := (yX4_look, cX4_look, 4, none, RX4, 1, 25)
abbrev cX4_reach : ByteArray := prog_6_method_13_code
def yX4_reach : MethodName := ⟨RX4, "reach", "(I)I"⟩
abbrev mX4_reach : Mth := (yX4_reach, cX4_reach, 2, (some .int), RX4, 2, 48)
abbrev cX4_isSure : ByteArray := prog_6_method_14_code
def yX4_isSure : MethodName := ⟨RX4, "isSure", "(I)Z"⟩
abbrev mX4_isSure : Mth := (yX4_isSure, cX4_isSure, 2, (some .boolean), RX4, 2, 48)
abbrev cX4_open : ByteArray := prog_6_method_15_code
def yX4_open : MethodName := ⟨RX4, "open", "(II)V"⟩
abbrev mX4_open : Mth := (yX4_open, cX4_open, 4, none, RX4, 0, 0)
abbrev cX4_begin : ByteArray := prog_6_method_16_code
def yX4_begin : MethodName := ⟨RX4, "begin", "(I)I"⟩
abbrev mX4_begin : Mth := (yX4_begin, cX4_begin, 4, (some .int), RX4, 3, 69)
abbrev cX4_next : ByteArray := prog_6_method_17_code
def yX4_next : MethodName := ⟨RX4, "next", "(II)I"⟩
abbrev mX4_next : Mth := (yX4_next, cX4_next, 8, (some .int), RX4, 0, 0)
abbrev cX4_share : ByteArray := prog_6_method_18_code
def yX4_share : MethodName := ⟨RX4, "share", "(IIJJJ)V"⟩
abbrev mX4_share : Mth := (yX4_share, cX4_share, 11, none, RX4, 0, 0)
abbrev cX4_lay : ByteArray := prog_6_method_19_code
def yX4_lay : MethodName := ⟨RX4, "lay", "(IIJ)V"⟩
abbrev mX4_lay : Mth := (yX4_lay, cX4_lay, 13, none, RX4, 1, 30)
abbrev cX4_alike : ByteArray := prog_6_method_20_code
def yX4_alike : MethodName := ⟨RX4, "alike", "(IIII)I"⟩
abbrev mX4_alike : Mth := (yX4_alike, cX4_alike, 6, (some .int), RX4, 0, 0)
abbrev cX4_newItems : ByteArray := prog_6_method_21_code
def yX4_newItems : MethodName := ⟨RX4, "newItems", "(II)I"⟩
abbrev mX4_newItems : Mth := (yX4_newItems, cX4_newItems, 7, (some .int), RX4, 1, 25)
abbrev cX4_goOn : ByteArray := prog_6_method_22_code
def yX4_goOn : MethodName := ⟨RX4, "goOn", "(II)Z"⟩
abbrev mX4_goOn : Mth := (yX4_goOn, cX4_goOn, 11, (some .boolean), RX4, 2, 62)
abbrev cX4_grow : ByteArray := prog_6_method_23_code
def yX4_grow : MethodName := ⟨RX4, "grow", "(I)I"⟩
abbrev mX4_grow : Mth := (yX4_grow, cX4_grow, 3, (some .int), RX4, 3, 92)
abbrev cX4_isSet : ByteArray := prog_6_method_24_code
def yX4_isSet : MethodName := ⟨RX4, "isSet", "(I)Z"⟩
abbrev mX4_isSet : Mth := (yX4_isSet, cX4_isSet, 1, (some .boolean), RX4, 1, 22)
abbrev cX4_until : ByteArray := prog_6_method_25_code
def yX4_until : MethodName := ⟨RX4, "until", "(III)I"⟩
abbrev mX4_until : Mth := (yX4_until, cX4_until, 7, (some .int), RX4, 4, 94)
abbrev cX4_unended : ByteArray := prog_6_method_26_code
def yX4_unended : MethodName := ⟨RX4, "unended", "(II)J"⟩
abbrev mX4_unended : Mth := (yX4_unended, cX4_unended, 6, (some .long), RX4, 0, 0)
abbrev cX4_foundOf : ByteArray := prog_6_method_27_code
def yX4_foundOf : MethodName := ⟨RX4, "foundOf", "(II)J"⟩
abbrev mX4_foundOf : Mth := (yX4_foundOf, cX4_foundOf, 6, (some .long), RX4, 0, 0)
abbrev cX4_low : ByteArray := prog_6_method_28_code
def yX4_low : MethodName := ⟨RX4, "low", "(II)J"⟩
abbrev mX4_low : Mth := (yX4_low, cX4_low, 6, (some .long), RX4, 3, 69)
abbrev cX4_high : ByteArray := prog_6_method_29_code
def yX4_high : MethodName := ⟨RX4, "high", "(II)J"⟩
abbrev mX4_high : Mth := (yX4_high, cX4_high, 6, (some .long), RX4, 3, 69)
abbrev cX4_end : ByteArray := prog_6_method_30_code
def yX4_end : MethodName := ⟨RX4, "end", "(II)J"⟩
abbrev mX4_end : Mth := (yX4_end, cX4_end, 3, (some .long), RX4, 4, 94)
abbrev cX4_part : ByteArray := prog_6_method_31_code
def yX4_part : MethodName := ⟨RX4, "part", "(JJZ)I"⟩
abbrev mX4_part : Mth := (yX4_part, cX4_part, 9, (some .int), RX4, 0, 0)
abbrev cX4_given : ByteArray := prog_6_method_32_code
def yX4_given : MethodName := ⟨RX4, "given", "(III)I"⟩
abbrev mX4_given : Mth := (yX4_given, cX4_given, 10, (some .int), RX4, 4, 94)
abbrev cX4_best : ByteArray := prog_6_method_33_code
def yX4_best : MethodName := ⟨RX4, "best", "(II)I"⟩
abbrev mX4_best : Mth := (yX4_best, cX4_best, 10, (some .int), RX4, 4, 94)
abbrev cX4_item : ByteArray := prog_6_method_34_code
def yX4_item : MethodName := ⟨RX4, "item", "(II)I"⟩
abbrev mX4_item : Mth := (yX4_item, cX4_item, 3, (some .int), RX4, 1, 22)
abbrev cX4_units : ByteArray := prog_6_method_35_code
def yX4_units : MethodName := ⟨RX4, "units", "(I)J"⟩
abbrev mX4_units : Mth := (yX4_units, cX4_units, 2, (some .long), RX4, 1, 22)
abbrev cX4_found : ByteArray := prog_6_method_36_code
def yX4_found : MethodName := ⟨RX4, "found", "(I)J"⟩
abbrev mX4_found : Mth := (yX4_found, cX4_found, 2, (some .long), RX4, 1, 22)
abbrev cX4_rests : ByteArray := prog_6_method_37_code
def yX4_rests : MethodName := ⟨RX4, "rests", "(I)J"⟩
abbrev mX4_rests : Mth := (yX4_rests, cX4_rests, 2, (some .long), RX4, 2, 43)
abbrev cX4_copy : ByteArray := prog_6_method_38_code
def yX4_copy : MethodName := ⟨RX4, "copy", "(II)V"⟩
abbrev mX4_copy : Mth := (yX4_copy, cX4_copy, 4, none, RX4, 0, 0)
abbrev cX4_save : ByteArray := prog_6_method_39_code
def yX4_save : MethodName := ⟨RX4, "save", "(I)I"⟩
abbrev mX4_save : Mth := (yX4_save, cX4_save, 2, (some .int), RX4, 1, 23)
abbrev cX4_back : ByteArray := prog_6_method_40_code
def yX4_back : MethodName := ⟨RX4, "back", "(I)I"⟩
abbrev mX4_back : Mth := (yX4_back, cX4_back, 2, (some .int), RX4, 1, 23)
abbrev cX4_told : ByteArray := prog_6_method_41_code
def yX4_told : MethodName := ⟨RX4, "told", "(I)I"⟩
abbrev mX4_told : Mth := (yX4_told, cX4_told, 2, (some .int), RX4, 2, 43)
abbrev cJ9_min_7cf53 : ByteArray := prog_7_method_69_code
def yJ9_min_7cf53 : MethodName := ⟨RJ9, "min", "(II)I"⟩
abbrev mJ9_min_7cf53 : Mth := (yJ9_min_7cf53, cJ9_min_7cf53, 2, (some .int), RJ9, 0, 0)
abbrev cJ7_fill_d0a16 : ByteArray := prog_9_method_101_code
def yJ7_fill_d0a16 : MethodName := ⟨RJ7, "fill", "([JJ)V"⟩
abbrev mJ7_fill_d0a16 : Mth := (yJ7_fill_d0a16, cJ7_fill_d0a16, 5, none, RJ7, 0, 0)
abbrev cJ7_fill_53178 : ByteArray := prog_9_method_103_code
def yJ7_fill_53178 : MethodName := ⟨RJ7, "fill", "([II)V"⟩
abbrev mJ7_fill_53178 : Mth := (yJ7_fill_53178, cJ7_fill_53178, 4, none, RJ7, 0, 0)
abbrev cL_law : ByteArray := code
def yL_law : MethodName := ⟨RL, "law", "([I)Z"⟩
abbrev mL_law : Mth := (yL_law, cL_law, 4, ret, RL, 9, 356)
def clR (ci : Nat) : vw_C := vwCl.getD ci (RX0, TX0, 0)
def dG (μ : Mth) (pc ci j npc : Nat) : Prop := ∃ ix : Nat, decode μ.2.1 pc = .ok (.getfield ix, 3) ∧ npc = pc + 3 ∧ dW (.fieldLink μ.2.2.2.2.1 ix ((clR ci).2.1 j).1 ((clR ci).2.1 j).2.1 ((clR ci).2.1 j).2.2.1) ∧ j < (clR ci).2.2
def dP (μ : Mth) (pc ci j npc : Nat) : Prop := ∃ ix : Nat, decode μ.2.1 pc = .ok (.putfield ix, 3) ∧ npc = pc + 3 ∧ dW (.fieldLink μ.2.2.2.2.1 ix ((clR ci).2.1 j).1 ((clR ci).2.1 j).2.1 ((clR ci).2.1 j).2.2.1) ∧ j < (clR ci).2.2
def rOk (μ μ' : Mth) : Prop := μ'.2.2.2.2.2.1 + 1 ≤ μ.2.2.2.2.2.1 ∧ 8 + (μ'.2.2.1 + 11) + μ'.2.2.2.2.2.2 ≤ μ.2.2.2.2.2.2
def dV (μ : Mth) (pc : Nat) (μ' : Mth) (npc : Nat) : Prop := ∃ ix : Nat, decode μ.2.1 pc = .ok (.invokevirtual ix, 3) ∧ npc = pc + 3 ∧ dW (.methodLink μ.2.2.2.2.1 ix μ'.1) ∧ μ'.2.2.2.2.2.1 + 1 ≤ μ.2.2.2.2.2.1 ∧ 8 + (μ'.2.2.1 + 11) + μ'.2.2.2.2.2.2 ≤ μ.2.2.2.2.2.2
def dS (μ : Mth) (pc : Nat) (μ' : Mth) (npc : Nat) : Prop := ∃ ix : Nat, decode μ.2.1 pc = .ok (.invokestatic ix, 3) ∧ npc = pc + 3 ∧ dW (.methodLink μ.2.2.2.2.1 ix μ'.1) ∧ μ'.2.2.2.2.2.1 + 1 ≤ μ.2.2.2.2.2.1 ∧ 8 + (μ'.2.2.1 + 11) + μ'.2.2.2.2.2.2 ≤ μ.2.2.2.2.2.2
def dCp (μ : Mth) (pc npc : Nat) : Prop := ∃ ix : Nat, decode μ.2.1 pc = .ok (.invokestatic ix, 3) ∧ npc = pc + 3 ∧ dW (.methodLink μ.2.2.2.2.1 ix arraycopyName) ∧ 1 ≤ μ.2.2.2.2.2.1 ∧ 8 + (nativeFrameWords "java/lang/System" "arraycopy" 5 + 11) ≤ μ.2.2.2.2.2.2
def dMn (μ : Mth) (pc npc : Nat) : Prop := ∃ ix : Nat, decode μ.2.1 pc = .ok (.invokestatic ix, 3) ∧ npc = pc + 3 ∧ dW (.methodLink μ.2.2.2.2.1 ix Lib.Math.min.name) ∧ 1 ≤ μ.2.2.2.2.2.1 ∧ 8 + 13 ≤ μ.2.2.2.2.2.2
def okM (μ : Mth) : Prop := dW (.code μ.1 μ.2.1 μ.2.2.1 μ.2.2.2.1) ∧ dW (.initialized μ.1.cls) ∧ (μ.1.cls ≠ "java/lang/invoke/MethodHandle" ∧ μ.1.cls ≠ "java/lang/invoke/VarHandle") ∧ plainName μ.1.cls = true ∧ (parseMethodDescriptor μ.1.desc).isSome = true ∧ ((dW (.instanceMethod μ.1) ∧ dW (.selects μ.1.cls μ.1 μ.1)) ∨ dW (.static μ.1))
def nP (μ : Mth) : Nat := ((parseMethodDescriptor μ.1.desc).map (fun d => d.parameters.length)).getD 0
end
